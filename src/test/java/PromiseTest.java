/** Each promise of the document by hand: ordinary inputs, the edges, and wrong inputs. */
public final class PromiseTest extends Calls {
    public static void main(String[] args) {
        aNewObject();
        heldGap();
        bay();
        bayAndThePlan();
        rate();
        rateAndThePlan();
        step();
        planWithWaiting();
        planWaitsForTheNextWithBays();
        planKeepsFirstAndLastApart();
        planRanks();
        planEdges();
        works();
        where();
        failsInTheMiddle();
        failsAtEdges();
        failsWrongly();
        bound();
        row();
        look();
        count();
        check.end();
    }

    private static void aNewObject() {
        check.part("1 a new object");
        int[][] held = {{1, 1}, {2, 2}, {3, 3}, {4, 4}, {5, 4}, {0, 1}, {-7, 1},
            {Integer.MAX_VALUE, 4}, {Integer.MIN_VALUE, 1}};
        for (int[] pair : held) {
            make(pair[0], 0);
            dueCount(pair[1], 1);
            dueRate(ARGUMENT, pair[1], 1, 1);
            dueRate(true, pair[1] - 1, 1, 1);
        }
        make(2, 0);
        dueCount(0, 0);
        dueCount(0, 2);
        dueCount(-1, 3);
        dueCount(-1, 4);
        dueCount(0, 5);
        dueWorks(STATE, 0, 0);
        dueLook(INDEX, 0, 0);
        make(1, 0, 6, 6);
        duePlan(13);
    }

    private static void heldGap() {
        check.part("1 the gap held");
        int[][] gapAndFinish = {{Integer.MIN_VALUE, 7}, {-1, 7}, {0, 7}, {1, 15}};
        for (int[] pair : gapAndFinish) {
            make(2, pair[0], 7, 7);
            duePlan(pair[1]);
        }
        for (int gap : new int[] {3, 4, 9, Integer.MAX_VALUE}) {
            make(2, gap, 7, 0, 0, 0, 7);
            duePlan(7);
            make(2, gap, 7, 0, 0, 7);
            duePlan(17);
        }
        make(2, 2, 7, 0, 0, 7);
        duePlan(7);
        make(2, 2, 7, 0, 7);
        duePlan(16);
    }

    private static void bay() {
        check.part("2 bay");
        make(1, 0);
        dueBay(0, 50, 200);
        dueBay(1, 0, 0);
        dueBay(ARGUMENT, 51, 0);
        dueBay(ARGUMENT, 0, 201);
        dueBay(ARGUMENT, -1, 5);
        dueBay(ARGUMENT, 5, -1);
        dueBay(ARGUMENT, Integer.MIN_VALUE, 0);
        dueBay(ARGUMENT, 0, Integer.MAX_VALUE);
        dueCount(2, 0);
        for (int number = 2; number < 8; number++) {
            dueBay(number, 0, number);
        }
        dueBay(STATE, 0, 1);
        dueBay(ARGUMENT, 51, 1);
        dueBay(ARGUMENT, 0, -1);
        dueCount(8, 0);
        dueCount(250 + 27, 5);
    }

    private static void bayAndThePlan() {
        check.part("2 bay and the plan");
        make(1, 0, 5);
        duePlan(5);
        dueBay(ARGUMENT, 0, 201);
        dueCount(1, 2);
        dueBay(1, 0, 0);
        dueCount(0, 2);
        dueWorks(STATE, 0, 0);
        duePlan(5);
        make(1, 0, 1, 1, 1, 1, 1, 1, 1, 1);
        duePlan(15);
        dueBay(STATE, 0, 1);
        dueCount(1, 2);
    }

    private static void rate() {
        check.part("3 rate");
        make(2, 0, 10);
        dueRate(ARITHMETIC, 0, 0, 1);
        dueRate(ARITHMETIC, 2, 0, 1);
        dueRate(ARITHMETIC, 0, 0, 101);
        dueRate(ARITHMETIC, -1, 0, 0);
        dueRate(ARGUMENT, -1, 1, 1);
        dueRate(ARGUMENT, 2, 1, 1);
        dueRate(ARGUMENT, 0, -1, 1);
        dueRate(ARGUMENT, 0, 101, 1);
        dueRate(ARGUMENT, 0, 1, 0);
        dueRate(ARGUMENT, 0, 1, -1);
        dueRate(ARGUMENT, 0, 1, 101);
        dueRate(ARGUMENT, Integer.MIN_VALUE, Integer.MIN_VALUE, Integer.MAX_VALUE);
        duePlan(10);
        dueRate(true, 0, 3, 2);
        duePlan(7);
        dueRate(true, 1, 100, 1);
        duePlan(1);
        dueCranes(1);
        dueRate(true, 0, 1, 100);
        dueRate(true, 1, 1, 100);
        duePlan(1000);
        dueRate(true, 0, 100, 100);
        duePlan(10);
        dueCranes(0);
    }

    private static void rateAndThePlan() {
        check.part("3 rate and the plan");
        make(2, 0, 10);
        duePlan(10);
        dueRate(ARITHMETIC, 0, 0, 1);
        dueRate(ARGUMENT, 0, 1, 0);
        dueRate(ARGUMENT, 2, 1, 1);
        dueCount(1, 2);
        dueRate(true, 0, 1, 1);
        dueCount(0, 2);
        duePlan(10);
        dueFails(5, 0, 5);
        dueRate(true, 0, 100, 1);
        dueCount(0, 2);
        dueCount(1, 1);
        duePlan(5);
        dueCranes(1);
    }

    private static void step() {
        check.part("4 step");
        make(1, 0, 4, 0, 6);
        duePlan(12);
        dueStep(false, -1);
        dueStep(false, 21);
        dueStep(false, Integer.MIN_VALUE);
        dueStep(false, Integer.MAX_VALUE);
        dueCount(1, 2);
        duePlan(12);
        dueStep(true, 20);
        dueCount(0, 2);
        duePlan(50);
        dueStep(true, 0);
        duePlan(10);
        dueStep(true, 0);
        dueCount(0, 2);
    }

    // Crane 0 is done with bay 0 at 3, but must not leave it till crane 1 is at bay 3 (at 12).
    private static void makeWaiting() {
        make(2, 1, 3, 3, 10, 3);
        x.step(2);
    }

    private static void planWithWaiting() {
        check.part("5 plan with waiting");
        makeWaiting();
        duePlan(17);
        dueCranes(0, 0, 1, 1);
        dueCount(2, 3);
        dueCount(4, 4);
        dueWholeRow(0, 0, 0, 0, 3);
        dueWholeRow(1, 0, 1, 2, 10);
        dueWholeRow(2, 12, 1, 3, 15);
        dueWholeRow(3, 14, 0, 1, 17);
        duePlan(17);
        dueWholeRow(3, 14, 0, 1, 17);
    }

    // The failed crane in between and the one aside are nothing to wait for.
    private static void planWaitsForTheNextWithBays() {
        check.part("5 plan with a crane out in between");
        make(3, 1, 3, 3, 10, 3);
        x.step(2);
        duePlan(17);
        dueFails(17, 1, 0);
        dueCranes(0, 0, 2, 2);
        dueWholeRow(3, 14, 0, 1, 17);
        dueWhere(-1, 1, 5);
        dueWhere(2, 2, 11);
        dueWhere(3, 2, 12);
    }

    private static void planKeepsFirstAndLastApart() {
        check.part("5 plan with firsts and lasts apart");
        // Bays 1 and 2 with crane 1 would need no more than 10, but the FIRST bays are too near.
        make(2, 1, 10, 4, 4);
        duePlan(20);
        dueCranes(0, 0, 0);
        // Here the LAST bays are too near.
        make(2, 1, 4, 4, 10);
        duePlan(20);
        dueCranes(0, 0, 0);
        make(2, 0, 10, 4, 4);
        duePlan(10);
        dueCranes(0, 1, 1);
        make(2, 0, 4, 4, 10);
        duePlan(10);
        dueCranes(0, 0, 1);
    }

    private static void planRanks() {
        check.part("5 plan of equal finish");
        // Crane 1 alone could do bays 3 and 4 in time as well, with a step more.
        make(3, 0, 20, 0, 0, 5, 5);
        duePlan(20);
        dueCount(0, 3);
        dueCranes(0, -1, -1, 1, 2);
        make(4, 0, 9);
        duePlan(9);
        dueCranes(0);
        make(4, 0, 9, 9);
        duePlan(9);
        dueCranes(0, 1);
        // Bay 1 may go with bay 0 or with bay 2, at one step and 11 minutes each.
        make(2, 0, 5, 5, 5);
        duePlan(11);
        dueCount(1, 3);
        dueCranes(0, 0, 1);
        // A finish less by a minute goes ahead of fewer steps.
        make(2, 0, 5, 0, 0, 5);
        x.rate(1, 1, 3);
        duePlan(13);
        dueCount(3, 3);
        x.step(4);
        duePlan(15);
        dueCount(0, 3);
    }

    private static void planEdges() {
        check.part("5 plan at its edges");
        make(1, 0);
        duePlan(0);
        dueCount(1, 2);
        dueCount(0, 3);
        dueCount(0, 4);
        make(2, 0, 0, 0);
        duePlan(0);
        dueCranes(-1, -1);
        dueFails(0, 0, 0);
        dueFails(-1, 1, 0);
        dueCount(0, 2);
        duePlan(-1);
        dueCount(0, 2);
        make(1, 3, 200, 200, 200, 200, 200, 200, 200, 200);
        x.rate(0, 1, 100);
        x.step(20);
        duePlan(8 * 20000 + 7 * 20);
        make(4, 0, 7, 9, 1, 3, 8, 2, 6, 5);
        duePlan(15);
        dueCranes(0, 1, 1, 1, 2, 2, 3, 3);
    }

    private static void works() {
        check.part("6 works");
        makeWaiting();
        dueWorks(STATE, 0, 0);
        dueWorks(INDEX, 2, 0);
        dueWorks(INDEX, -1, 0);
        x.plan();
        dueWorks(INDEX, 2, 0);
        dueWorks(INDEX, -1, -1);
        dueWorks(-1, 0, -1);
        dueWorks(-1, 0, Integer.MIN_VALUE);
        dueWorks(0, 0, 0);
        dueWorks(0, 0, 2);
        dueWorks(-1, 0, 3);
        dueWorks(-1, 0, 13);
        dueWorks(1, 0, 14);
        dueWorks(1, 0, 16);
        dueWorks(-1, 0, 17);
        dueWorks(-1, 0, Integer.MAX_VALUE);
        dueWorks(2, 1, 9);
        dueWorks(-1, 1, 10);
        dueWorks(3, 1, 12);
        x.step(2);
        dueWorks(STATE, 0, 0);
        make(2, 0, 5);
        x.plan();
        dueWorks(-1, 1, 0);
    }

    private static void where() {
        check.part("7 where");
        makeWaiting();
        dueWhere(STATE, 0, 0);
        dueWhere(INDEX, 2, 0);
        dueWhere(INDEX, 0, -1);
        x.plan();
        dueWhere(INDEX, 2, 0);
        dueWhere(INDEX, -1, 0);
        dueWhere(INDEX, 0, -1);
        dueWhere(INDEX, 0, Integer.MIN_VALUE);
        dueWhere(0, 0, 0);
        dueWhere(0, 0, 13);
        dueWhere(1, 0, 14);
        dueWhere(1, 0, Integer.MAX_VALUE);
        dueWhere(2, 1, 0);
        dueWhere(2, 1, 11);
        dueWhere(3, 1, 12);
        make(2, 0, 0, 4, 0, 0, 5);
        x.rate(1, 1, 100);
        duePlan(12);
        dueWhere(1, 0, 4);
        dueWhere(2, 0, 5);
        dueWhere(3, 0, 6);
        dueWhere(4, 0, 7);
        dueWhere(-1, 1, 0);
        x.step(0);
        duePlan(9);
        dueWhere(1, 0, 3);
        dueWhere(4, 0, 4);
    }

    private static void failsInTheMiddle() {
        check.part("8 fails");
        x = new CranePlan(2, 0);
        x.bay(4, 6);
        x.bay(3, 9);
        x.rate(0, 2, 3);
        x.rate(1, 3, 2);
        duePlan(15);
        dueCranes(0, 1);
        // By 5 crane 0 has 5 * 2 / 3 = 3 moves done, crane 1 has 5 * 3 / 2 = 7.
        // What is left takes crane 0 7 * 3 / 2 = 11 and 5 * 3 / 2 = 8, with a step between.
        dueFails(20, 1, 5);
        dueLeft(0, 1, 6);
        dueLeft(1, 0, 5);
        dueCount(12, 5);
        dueCount(1, 1);
        dueCount(1, 2);
        dueCranes(0, 0);
        dueWhere(-1, 1, 0);
    }

    private static void failsAtEdges() {
        check.part("8 fails at its edges");
        makeWaiting();
        x.plan();
        // Crane 1 is out from the beginning: nothing is done.
        dueFails(25, 1, 0);
        dueCount(19, 5);
        makeWaiting();
        x.plan();
        // At 3 bay 0 is done, at 10 bay 2 is.
        dueFails(3 + 4 + 3, 1, 10);
        dueLeft(0, 0, 0);
        dueLeft(1, 0, 3);
        dueLeft(2, 0, 0);
        dueLeft(3, 0, 3);
        dueCount(6, 5);
        dueCount(2, 3);
        dueWhere(1, 0, 0);
        dueFails(-1, 0, 1);
        dueLeft(1, 0, 2);
        dueLook(-1, 1, 2);
        dueCount(0, 1);
        dueCount(0, 2);
        duePlan(-1);
        make(2, 0, 200, 3);
        x.plan();
        dueFails(0, 1, Integer.MAX_VALUE);
        dueCount(0, 5);
        dueCount(1, 2);
        dueFails(-1, 0, Integer.MAX_VALUE);
        // A crane aside that fails leaves the others' work as far as it is.
        make(2, 3, 5, 5);
        duePlan(11);
        dueFails(7, 1, 4);
        dueLeft(0, 0, 1);
        dueBay(2, 0, 4);
        duePlan(12);
        dueCranes(0, 0, 0);
    }

    private static void failsWrongly() {
        check.part("8 fails with wrong inputs");
        make(2, 0, 5, 5);
        dueFails(INDEX, 2, -1);
        dueFails(INDEX, -1, 0);
        dueFails(ARGUMENT, 0, -1);
        dueFails(STATE, 0, 0);
        dueCount(2, 1);
        duePlan(5);
        dueFails(INDEX, 2, 0);
        dueFails(ARGUMENT, 1, Integer.MIN_VALUE);
        dueCount(1, 2);
        dueCount(2, 1);
        dueFails(11, 1, 0);
        dueFails(ARGUMENT, 1, 3);
        dueCount(10, 5);
        dueCount(1, 2);
        x.step(0);
        dueFails(ARGUMENT, 1, 3);
        dueFails(STATE, 0, 3);
    }

    private static void bound() {
        check.part("9 bound");
        make(2, 0);
        dueBound(0);
        make(2, 0, 10, 3);
        dueBound(10);
        x.rate(1, 3, 2);
        // A crane needs 7 for bay 0; 13 moves by 5/2 a minute take 6.
        dueBound(7);
        make(2, 0, 5, 5, 5);
        dueBound(8);
        x.rate(1, 2, 1);
        dueBound(5);
        // Three thirds are one, exactly.
        make(3, 0, 2, 2, 2, 2, 2, 2, 2, 2);
        x.rate(0, 1, 3);
        x.rate(1, 1, 3);
        x.rate(2, 1, 3);
        dueBound(16);
        x.plan();
        x.fails(0, 0);
        dueBound(24);
        dueCount(1, 2);
        x.fails(1, 0);
        x.fails(2, 0);
        dueBound(-1);
        make(4, 0);
        for (int i = 0; i < 8; i++) {
            x.bay(50, 200);
        }
        for (int crane = 0; crane < 4; crane++) {
            x.rate(crane, 1, 100 - crane);
        }
        // 2000 / (1/100 + 1/99 + 1/98 + 1/97) is 49243.7..
        dueBound(49244);
        x.rate(3, 100, 1);
        dueBound(20);
        dueCount(0, 2);
    }

    private static void row() {
        check.part("10 row");
        make(2, 0, 5, 5);
        dueRow(STATE, 0, 0);
        dueRow(STATE, -1, 4);
        x.plan();
        dueWholeRow(0, 0, 0, 0, 5);
        dueWholeRow(1, 0, 1, 1, 5);
        dueRow(INDEX, 2, 0);
        dueRow(INDEX, -1, 0);
        dueRow(INDEX, 0, 4);
        dueRow(INDEX, 0, -1);
        dueRow(INDEX, Integer.MIN_VALUE, 0);
        dueRow(INDEX, Integer.MAX_VALUE, Integer.MAX_VALUE);
        make(1, 0);
        x.plan();
        dueRow(INDEX, 0, 0);
        // Bay 3 is begun by crane 1 ahead of bay 1 by crane 0; bays 2 and 4 have none.
        make(2, 0, 6, 3, 0, 2, 0, 7);
        duePlan(11);
        dueWholeRow(0, 0, 0, 0, 6);
        dueWholeRow(1, 0, 1, 3, 2);
        dueWholeRow(2, 4, 1, 5, 11);
        dueWholeRow(3, 7, 0, 1, 10);
        dueRow(INDEX, 4, 0);
        x.rate(0, 1, 1);
        dueRow(STATE, 0, 0);
    }

    private static void look() {
        check.part("11 look");
        x = new CranePlan(1, 0);
        x.bay(5, 7);
        x.bay(0, 0);
        dueLeft(0, 5, 7);
        dueLook(-1, 0, 2);
        x.plan();
        dueLook(0, 0, 2);
        dueLook(-1, 1, 2);
        dueLook(INDEX, 2, 0);
        dueLook(INDEX, -1, 0);
        dueLook(INDEX, 0, 3);
        dueLook(INDEX, 0, -1);
        dueLook(INDEX, Integer.MAX_VALUE, Integer.MIN_VALUE);
        x.step(1);
        dueLook(-1, 0, 2);
        dueLeft(0, 5, 7);
    }

    private static void count() {
        check.part("12 count");
        make(3, 0, 5, 6, 0);
        x.bay(2, 3);
        dueCount(4, 0);
        dueCount(3, 1);
        dueCount(0, 2);
        dueCount(-1, 3);
        dueCount(-1, 4);
        dueCount(16, 5);
        dueCount(-1, 6);
        dueCount(-1, -1);
        dueCount(-1, Integer.MAX_VALUE);
        dueCount(-1, Integer.MIN_VALUE);
        x.plan();
        dueCount(1, 2);
        dueCount(0, 3);
        dueCount(3, 4);
        dueCount(16, 5);
        dueFails(4, 2, 4);
        dueCount(2, 1);
        dueCount(1 + 2 + 1, 5);
        dueCount(1, 3);
        dueCount(3, 4);
    }
}
