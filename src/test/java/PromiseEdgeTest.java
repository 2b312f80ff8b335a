/** Each sentence of the promises that names a boundary, with a test of its own. */
public final class PromiseEdgeTest extends Calls {
    public static void main(String[] args) {
        cranesHeld();
        gapHeld();
        bayThatCantBe();
        bayBeyondEight();
        rateOfNoMoves();
        rateOfNoCrane();
        rateOutside();
        rateOfACraneOut();
        stepOutside();
        planWithoutCranes();
        worksFromTo();
        worksAtNeighbouringBays();
        worksOfNoCrane();
        worksWithoutAPlan();
        whereComesLast();
        whereAside();
        whereWrong();
        whereWithoutAPlan();
        failsMovesDone();
        failsHatchFirst();
        failsRoundedDown();
        failsBetweenBays();
        failsOthersLeft();
        failsTimeNought();
        failsTheLastCrane();
        failsAfterTheFinish();
        failsAgain();
        failsWrong();
        boundOfBays();
        boundOfAll();
        boundWithoutWork();
        boundWithoutCranes();
        rowsInOrder();
        rowWithoutAPlan();
        rowNoneSuch();
        lookNone();
        lookNoneSuch();
        countEach();
        countAnother();
        check.end();
    }

    private static void cranesHeld() {
        check.part("1: So many cranes (1 .. 4, held to that)");
        int[][] givenAndHeld = {{Integer.MIN_VALUE, 1}, {-4, 1}, {-1, 1}, {0, 1}, {1, 1}, {2, 2},
            {3, 3}, {4, 4}, {5, 4}, {8, 4}, {Integer.MAX_VALUE, 4}};
        for (int[] pair : givenAndHeld) {
            make(pair[0], 0, 6, 6, 6, 6);
            dueCount(pair[1], 1);
            dueBound(new int[] {24, 12, 8, 6}[pair[1] - 1]);
            duePlan(new int[] {27, 13, 13, 6}[pair[1] - 1]);
            dueWorks(INDEX, pair[1], 0);
            dueWhere(INDEX, pair[1], 0);
        }
    }

    private static void gapHeld() {
        check.part("1: so many bays apart (0 .. 3, held to that)");
        int[][] givenAndHeld = {{Integer.MIN_VALUE, 0}, {-3, 0}, {-1, 0}, {0, 0}, {1, 1}, {2, 2},
            {3, 3}, {4, 3}, {7, 3}, {Integer.MAX_VALUE, 3}};
        for (int[] pair : givenAndHeld) {
            for (int apart = 1; apart <= 5; apart++) {
                int[] works = new int[8];
                works[1] = 6;
                works[1 + apart] = 6;
                make(2, pair[0], works);
                duePlan(apart > pair[1] ? 6 : 12 + apart);
            }
        }
    }

    private static void bayThatCantBe() {
        check.part("2: IllegalArgumentException if its moves can't be");
        make(1, 0);
        dueBay(ARGUMENT, -1, 0);
        dueBay(ARGUMENT, 51, 0);
        dueBay(ARGUMENT, 0, -1);
        dueBay(ARGUMENT, 0, 201);
        // Their sum could be, but each of both has its own bounds.
        dueBay(ARGUMENT, 51, 199);
        dueBay(ARGUMENT, -1, 1);
        dueBay(ARGUMENT, 50, -50);
        // The next that can be has the number that was not used.
        dueBay(0, 0, 0);
        dueBay(ARGUMENT, Integer.MAX_VALUE, 1);
        dueBay(1, 50, 200);
    }

    private static void bayBeyondEight() {
        check.part("2: IllegalStateException if there are 8");
        make(1, 0, 0, 0, 0, 0, 0, 0, 0);
        dueBay(7, 0, 3);
        dueBay(STATE, 0, 0);
        dueBay(STATE, 50, 200);
        dueCount(8, 0);
        dueLeft(7, 0, 3);
        duePlan(3);
        dueFails(-1, 0, 3);
        // Bays without moves are bays still.
        dueBay(STATE, 0, 1);
    }

    private static void rateOfNoMoves() {
        check.part("3: ArithmeticException if the moves are 0");
        make(2, 0, 6);
        x.rate(0, 1, 2);
        x.rate(1, 1, 3);
        dueRate(ARITHMETIC, 0, 0, 1);
        dueRate(ARITHMETIC, 1, 0, 100);
        dueRate(ARITHMETIC, 2, 0, 1);
        dueRate(ARITHMETIC, Integer.MIN_VALUE, 0, Integer.MIN_VALUE);
        dueRate(ARITHMETIC, 0, 0, 0);
        duePlan(12);
    }

    private static void rateOfNoCrane() {
        check.part("3: IllegalArgumentException if there is no such crane");
        for (int cranes = 1; cranes <= 4; cranes++) {
            make(cranes, 0);
            dueRate(true, cranes - 1, 1, 1);
            dueRate(ARGUMENT, cranes, 1, 1);
            dueRate(ARGUMENT, 4, 1, 1);
            dueRate(ARGUMENT, -1, 1, 1);
            dueRate(ARGUMENT, Integer.MAX_VALUE, 1, 1);
            dueRate(ARGUMENT, Integer.MIN_VALUE, 1, 1);
        }
    }

    private static void rateOutside() {
        check.part("3: IllegalArgumentException if one of both is not 1 .. 100");
        make(1, 0, 10);
        dueRate(true, 0, 2, 3);
        for (int wrong : new int[] {-1, 101, -100, Integer.MIN_VALUE, Integer.MAX_VALUE}) {
            dueRate(ARGUMENT, 0, wrong, 50);
            dueRate(ARGUMENT, 0, 50, wrong);
            dueRate(ARGUMENT, 0, wrong, wrong);
        }
        dueRate(ARGUMENT, 0, 100, 0);
        duePlan(15);
        dueRate(true, 0, 1, 1);
        dueRate(true, 0, 100, 100);
        dueRate(true, 0, 1, 100);
        duePlan(1000);
        dueRate(true, 0, 100, 1);
        duePlan(1);
    }

    private static void rateOfACraneOut() {
        check.part("3: a crane that is out is such a crane still");
        make(2, 0, 6, 6);
        duePlan(6);
        dueFails(13, 1, 0);
        dueRate(true, 1, 100, 1);
        dueCount(0, 2);
        dueBound(12);
        duePlan(13);
        dueCranes(0, 0);
    }

    private static void stepOutside() {
        check.part("4: true; false if they are not 0 .. 20");
        make(1, 0, 5, 5);
        for (int minutes = 0; minutes <= 20; minutes++) {
            dueStep(true, minutes);
            dueStep(false, -1 - minutes);
            dueStep(false, 21 + minutes);
            duePlan(10 + minutes);
        }
        dueStep(false, Integer.MIN_VALUE);
        dueStep(false, Integer.MAX_VALUE);
        dueCount(1, 2);
    }

    private static void planWithoutCranes() {
        check.part("5: NONE if there is none (no crane that may work)");
        for (int cranes = 1; cranes <= 4; cranes++) {
            make(cranes, 0, 5, 5, 5, 5);
            x.plan();
            for (int crane = 0; crane < cranes - 1; crane++) {
                x.fails(crane, 0);
                dueCount(1, 2);
            }
            dueFails(-1, cranes - 1, 0);
            duePlan(-1);
            dueCount(0, 1);
            dueCount(0, 2);
            dueCount(-1, 3);
            dueCount(-1, 4);
            dueWorks(STATE, 0, 0);
            dueWhere(STATE, 0, 0);
            dueRow(STATE, 0, 0);
            dueLook(-1, 0, 2);
            dueBay(4, 0, 1);
            dueRate(true, 0, 1, 1);
            dueStep(true, 0);
            duePlan(-1);
        }
        // Without any work left there is none either: no crane may work.
        make(1, 0);
        duePlan(0);
        dueFails(-1, 0, 0);
        duePlan(-1);
    }

    private static void worksFromTo() {
        check.part("6: from when its work there begins up to when it ends (that not included)");
        make(1, 0, 0, 2, 3);
        x.step(2);
        duePlan(7);
        int[] bayAt = {1, 1, -1, -1, 2, 2, 2, -1, -1};
        for (int time = 0; time < bayAt.length; time++) {
            dueWorks(bayAt[time], 0, time);
        }
        dueWorks(-1, 0, -1);
        dueWorks(-1, 0, Integer.MIN_VALUE);
        dueWorks(-1, 0, Integer.MAX_VALUE);
    }

    private static void worksAtNeighbouringBays() {
        check.part("6: where one work ends as the next begins");
        make(1, 0, 1, 1, 2);
        x.step(0);
        duePlan(4);
        int[] bayAt = {0, 1, 2, 2, -1};
        for (int time = 0; time < bayAt.length; time++) {
            dueWorks(bayAt[time], 0, time);
        }
    }

    private static void worksOfNoCrane() {
        check.part("6: IndexOutOfBoundsException if there is no such crane");
        for (int cranes = 1; cranes <= 4; cranes++) {
            make(cranes, 0, 5);
            x.plan();
            dueWorks(cranes == 1 ? 0 : -1, cranes - 1, 0);
            dueWorks(INDEX, cranes, 0);
            dueWorks(INDEX, 4, 0);
            dueWorks(INDEX, -1, 0);
            dueWorks(INDEX, Integer.MAX_VALUE, -1);
            dueWorks(INDEX, Integer.MIN_VALUE, Integer.MAX_VALUE);
        }
        // One that is out is such a crane still.
        make(2, 0, 5);
        x.plan();
        x.fails(1, 0);
        dueWorks(-1, 1, 0);
    }

    private static void worksWithoutAPlan() {
        check.part("6: IllegalStateException without a plan");
        make(1, 0);
        dueWorks(STATE, 0, 0);
        dueWorks(STATE, 0, -1);
        duePlan(0);
        dueWorks(-1, 0, 0);
        x.bay(0, 0);
        dueWorks(STATE, 0, 0);
    }

    private static void whereComesLast() {
        check.part("7: the bay to which it came last");
        make(1, 0, 1, 1, 0, 1);
        x.step(3);
        duePlan(12);
        // It comes to bay 1 at 4, to bay 2 at 8 and to bay 3 at 11.
        int[] bayAt = {0, 0, 0, 0, 1, 1, 1, 1, 2, 2, 2, 3, 3, 3};
        for (int time = 0; time < bayAt.length; time++) {
            dueWhere(bayAt[time], 0, time);
        }
        dueWhere(3, 0, Integer.MAX_VALUE);
        // It comes to several bays at one time.
        x.step(0);
        duePlan(3);
        int[] atOnce = {0, 1, 3, 3};
        for (int time = 0; time < atOnce.length; time++) {
            dueWhere(atOnce[time], 0, time);
        }
    }

    private static void whereAside() {
        check.part("7: NONE for one aside");
        make(4, 3, 5, 0, 0, 0, 5);
        duePlan(5);
        dueWhere(0, 0, 0);
        dueWhere(4, 1, 0);
        dueWhere(-1, 2, 0);
        dueWhere(-1, 3, Integer.MAX_VALUE);
        dueFails(5, 0, 0);
        dueWhere(-1, 0, 0);
        dueWhere(0, 1, 0);
        dueWhere(4, 2, 0);
    }

    private static void whereWrong() {
        check.part("7: IndexOutOfBoundsException if there is no such crane, or the time is below 0");
        for (int cranes = 1; cranes <= 4; cranes++) {
            make(cranes, 0, 5);
            x.plan();
            dueWhere(cranes == 1 ? 0 : -1, cranes - 1, 0);
            dueWhere(INDEX, cranes, 0);
            dueWhere(INDEX, -1, 0);
            dueWhere(INDEX, Integer.MAX_VALUE, 0);
            dueWhere(INDEX, Integer.MIN_VALUE, 0);
            dueWhere(INDEX, 0, -1);
            dueWhere(INDEX, 0, Integer.MIN_VALUE);
            // One aside is at no time below 0 either.
            dueWhere(INDEX, cranes - 1, -1);
        }
    }

    private static void whereWithoutAPlan() {
        check.part("7: IllegalStateException without a plan");
        make(1, 0);
        dueWhere(STATE, 0, 0);
        dueWhere(STATE, 0, Integer.MAX_VALUE);
        dueWhere(INDEX, 0, -1);
        duePlan(0);
        dueWhere(-1, 0, 0);
        x.step(1);
        dueWhere(STATE, 0, 0);
    }

    // By 4 crane 0 has worked off bay 0, and crane 1 (which fails) its bay but for the last move.
    private static void failsMovesDone() {
        check.part("8: MOVES that were done by then are done");
        make(2, 0, 4, 5);
        duePlan(5);
        dueFails(1, 1, 4);
        dueLeft(0, 0, 0);
        dueLeft(1, 0, 1);
        dueCount(1, 5);
        dueCount(1, 4);
        dueCranes(-1, 0);
        make(2, 0, 4, 5);
        duePlan(5);
        dueFails(0, 1, 5);
        dueCount(0, 5);
        make(2, 0, 4, 5);
        duePlan(5);
        dueFails(4, 1, 3);
        dueLeft(0, 0, 1);
        dueLeft(1, 0, 2);
    }

    private static void failsHatchFirst() {
        check.part("8: first its HATCH");
        int[][] timeAndLeft = {{0, 3, 4}, {1, 2, 4}, {2, 1, 4}, {3, 0, 4}, {4, 0, 3}, {6, 0, 1}, {7, 0, 0}, {8, 0, 0}};
        for (int[] row : timeAndLeft) {
            x = new CranePlan(2, 0);
            x.bay(3, 4);
            duePlan(7);
            dueFails(row[1] + row[2], 1, row[0]);
            dueLeft(0, row[1], row[2]);
            dueCount(row[1] + row[2], 5);
        }
    }

    private static void failsRoundedDown() {
        check.part("8: those for which the time up to it was enough, rounded down");
        int[][] rateTimeLeft = {{1, 3, 2, 10}, {1, 3, 3, 9}, {1, 3, 5, 9}, {1, 3, 6, 8}, {1, 3, 29, 1}, {1, 3, 30, 0},
            {3, 2, 1, 9}, {3, 2, 2, 7}, {3, 2, 3, 6}, {3, 2, 6, 1}, {3, 2, 7, 0},
            {99, 100, 1, 10}, {99, 100, 2, 9}, {99, 100, 10, 1}, {99, 100, 11, 0},
            {1, 100, 99, 10}, {1, 100, 100, 9}, {1, 100, 999, 1}, {1, 100, 1000, 0},
            {100, 1, 0, 10}, {100, 1, 1, 0}};
        for (int[] row : rateTimeLeft) {
            make(2, 3, 10);
            x.rate(0, row[0], row[1]);
            x.rate(1, 1, 100);
            x.plan();
            dueLook(0, 0, 2);
            x.fails(1, row[2]);
            dueLeft(0, 0, row[3]);
        }
        x = new CranePlan(2, 0);
        x.bay(50, 200);
        x.rate(0, 100, 1);
        duePlan(3);
        dueFails(2, 1, 1);
        dueLeft(0, 0, 150);
        make(1, 0, 200);
        x.rate(0, 1, 100);
        duePlan(20000);
        dueFails(-1, 0, 19999);
        dueLeft(0, 0, 1);
    }

    // Bay 0 is done at 3 and left for bay 2, at which the crane comes at 9.
    private static void failsBetweenBays() {
        check.part("8: all others are left");
        int[][] timeAndLeft = {{2, 1, 4}, {3, 0, 4}, {6, 0, 4}, {8, 0, 4}, {9, 0, 4}, {10, 0, 3}, {13, 0, 0}};
        for (int[] row : timeAndLeft) {
            make(1, 0, 3, 0, 4);
            x.step(3);
            duePlan(13);
            dueFails(-1, 0, row[0]);
            dueLeft(0, 0, row[1]);
            dueLeft(1, 0, 0);
            dueLeft(2, 0, row[2]);
        }
    }

    // While crane 0 waits at bay 0 nothing of bay 1 is done.
    private static void failsOthersLeft() {
        check.part("8: of a bay that is not come to yet, nothing is done");
        int[][] timeAndLeft = {{5, 0, 3, 5, 3}, {11, 0, 3, 0, 3}, {12, 0, 3, 0, 3}, {14, 0, 3, 0, 1}, {15, 0, 2, 0, 0}};
        for (int[] row : timeAndLeft) {
            make(2, 1, 3, 3, 10, 3);
            x.step(2);
            duePlan(17);
            x.fails(1, row[0]);
            for (int bay = 0; bay < 4; bay++) {
                dueLeft(bay, 0, row[bay + 1]);
            }
        }
    }

    private static void failsTimeNought() {
        check.part("8: THE PLAN is made of what is left, with time 0 then");
        make(2, 0, 6, 6);
        duePlan(6);
        dueFails(13, 0, 0);
        dueCount(12, 5);
        // The new plan begins at the FIRST bay that is left, whoever stood where.
        make(2, 0, 3, 6, 6);
        duePlan(10);
        dueCranes(0, 0, 1);
        dueFails(4, 1, 6);
        dueCranes(-1, 0, -1);
        dueLeft(1, 0, 4);
        dueWhere(1, 0, 0);
        dueWholeRow(0, 0, 0, 1, 4);
    }

    private static void failsTheLastCrane() {
        check.part("8: its FINISH, NONE if there is none");
        make(1, 0, 6, 6);
        duePlan(13);
        dueFails(-1, 0, 8);
        // What was done by then is done though nobody goes on.
        dueLeft(0, 0, 0);
        dueLeft(1, 0, 5);
        dueCount(0, 1);
        dueCount(0, 2);
        dueCount(5, 5);
    }

    private static void failsAfterTheFinish() {
        check.part("8: a time after the FINISH");
        for (int time : new int[] {13, 14, 1000000, Integer.MAX_VALUE}) {
            make(2, 3, 6, 6);
            x.rate(1, 1, 100);
            duePlan(13);
            dueFails(0, 1, time);
            dueCount(0, 5);
            dueCount(1, 2);
            dueCount(0, 4);
            dueRow(INDEX, 0, 0);
            dueWhere(-1, 0, 0);
        }
    }

    private static void failsAgain() {
        check.part("8: a second one is at a time of the new plan");
        make(3, 0, 8, 8, 8);
        duePlan(8);
        dueFails(11, 2, 3);
        dueCount(15, 5);
        dueCranes(0, 0, 1);
        dueFails(13, 1, 2);
        dueLeft(0, 0, 3);
        dueLeft(1, 0, 5);
        dueLeft(2, 0, 3);
        dueFails(ARGUMENT, 1, 0);
        dueFails(ARGUMENT, 2, 0);
        dueFails(-1, 0, 5);
        dueLeft(0, 0, 0);
        dueLeft(1, 0, 4);
        dueFails(ARGUMENT, 0, 0);
    }

    private static void failsWrong() {
        check.part("8: IndexOutOfBoundsException, IllegalArgumentException, IllegalStateException");
        for (int cranes = 1; cranes <= 4; cranes++) {
            make(cranes, 0, 6);
            dueFails(STATE, cranes - 1, 0);
            dueFails(STATE, cranes - 1, Integer.MAX_VALUE);
            dueFails(ARGUMENT, cranes - 1, -1);
            dueFails(INDEX, cranes, 0);
            duePlan(6);
            dueFails(INDEX, cranes, 0);
            dueFails(INDEX, -1, 0);
            dueFails(INDEX, Integer.MAX_VALUE, -1);
            dueFails(INDEX, Integer.MIN_VALUE, -1);
            dueFails(ARGUMENT, 0, -1);
            dueFails(ARGUMENT, cranes - 1, Integer.MIN_VALUE);
            dueCount(cranes, 1);
            dueCount(6, 5);
            dueCount(1, 2);
        }
        make(2, 0, 6);
        duePlan(6);
        dueFails(6, 0, 0);
        dueFails(ARGUMENT, 0, 1);
        x.step(1);
        dueFails(ARGUMENT, 0, 1);
        dueFails(STATE, 1, 1);
    }

    private static void boundOfBays() {
        check.part("9: for each bay the least time that a crane may need for it");
        make(3, 0, 1, 9, 2);
        dueBound(9);
        x.rate(2, 2, 1);
        dueBound(5);
        x.rate(2, 9, 8);
        dueBound(8);
        x.rate(2, 10, 9);
        // 90 minutes by 10 moves are 9, and 81 / 10 are 8.1, rounded up.
        dueBound(9);
        // HATCH and WORK count together; the crane that needs least may be any.
        x = new CranePlan(2, 0);
        x.bay(4, 5);
        x.rate(1, 1, 2);
        dueBound(9);
        x.rate(0, 1, 3);
        dueBound(18);
    }

    private static void boundOfAll() {
        check.part("9: all MOVES by all cranes' rates together, rounded up");
        make(4, 0, 5, 5, 5, 5, 5, 5, 5, 5);
        dueBound(10);
        make(4, 0, 5, 5, 5, 5, 5, 5, 5, 6);
        dueBound(11);
        // 1/2 + 1/3 + 1/6 are one in a minute, exactly.
        make(3, 0, 4, 4, 4);
        x.rate(0, 1, 2);
        x.rate(1, 1, 3);
        x.rate(2, 1, 6);
        dueBound(12);
        // A little less than one: 1/2 + 1/3 + 4/25 are 149/150; 12 * 150 / 149 are 12.08.
        x.rate(2, 4, 25);
        dueBound(13);
        // The largest numbers: 2000 moves at 4 in 100 minutes.
        x = new CranePlan(4, 0);
        for (int bay = 0; bay < 8; bay++) {
            x.bay(50, 200);
        }
        for (int crane = 0; crane < 4; crane++) {
            x.rate(crane, 1, 100);
        }
        dueBound(50000);
        for (int crane = 0; crane < 4; crane++) {
            x.rate(crane, 100, 1);
        }
        dueBound(5);
        // Cranes that are out count no more.
        make(2, 0, 5, 5, 5, 5);
        dueBound(10);
        duePlan(11);
        x.fails(0, 0);
        dueBound(20);
    }

    private static void boundWithoutWork() {
        check.part("9: 0 without MOVES");
        make(4, 0);
        dueBound(0);
        dueBay(0, 0, 0);
        dueBound(0);
        dueBay(1, 1, 0);
        dueBound(1);
        dueCount(0, 2);
    }

    private static void boundWithoutCranes() {
        check.part("9: NONE without a crane that may work");
        make(2, 0, 4, 4);
        duePlan(4);
        dueFails(9, 0, 0);
        dueBound(8);
        dueFails(-1, 1, 0);
        dueBound(-1);
        dueBay(2, 1, 1);
        dueRate(true, 0, 1, 1);
        dueBound(-1);
        make(1, 0);
        duePlan(0);
        dueFails(-1, 0, 0);
        dueBound(-1);
    }

    private static void rowsInOrder() {
        check.part("10: by times at which work begins, then cranes");
        make(4, 0, 5, 5, 5, 5);
        duePlan(5);
        for (int i = 0; i < 4; i++) {
            dueWholeRow(i, 0, i, i, 5);
        }
        // Cranes 0 and 1 both begin their second bays at 4, crane 1 its third at 6, crane 0 at 8.
        make(2, 0, 3, 3, 3, 3, 1, 3);
        duePlan(11);
        dueCranes(0, 0, 0, 1, 1, 1);
        dueWholeRow(0, 0, 0, 0, 3);
        dueWholeRow(1, 0, 1, 3, 3);
        dueWholeRow(2, 4, 0, 1, 7);
        dueWholeRow(3, 4, 1, 4, 5);
        dueWholeRow(4, 6, 1, 5, 9);
        dueWholeRow(5, 8, 0, 2, 11);
        dueRow(INDEX, 6, 0);
    }

    private static void rowWithoutAPlan() {
        check.part("10: IllegalStateException without a plan");
        make(1, 0, 5);
        dueRow(STATE, 0, 0);
        dueRow(STATE, 8, 4);
        dueRow(STATE, Integer.MIN_VALUE, Integer.MAX_VALUE);
        duePlan(5);
        dueRow(5, 0, 3);
        x.rate(0, 1, 1);
        dueRow(STATE, 0, 3);
    }

    private static void rowNoneSuch() {
        check.part("10: IndexOutOfBoundsException if there is none such");
        make(1, 0, 5, 0, 5);
        duePlan(12);
        dueRow(12, 1, 3);
        dueRow(INDEX, 2, 0);
        dueRow(INDEX, 8, 0);
        dueRow(INDEX, -1, 0);
        dueRow(INDEX, Integer.MAX_VALUE, 0);
        dueRow(INDEX, Integer.MIN_VALUE, 0);
        dueRow(INDEX, 0, -1);
        dueRow(INDEX, 0, 4);
        dueRow(INDEX, 0, Integer.MAX_VALUE);
        dueRow(INDEX, 0, Integer.MIN_VALUE);
        make(1, 0, 0, 0);
        duePlan(0);
        dueRow(INDEX, 0, 0);
        make(1, 0, 1, 1, 1, 1, 1, 1, 1, 1);
        duePlan(15);
        dueRow(7, 7, 2);
        dueRow(INDEX, 8, 2);
    }

    private static void lookNone() {
        check.part("11: its crane by the plan (NONE if it has no MOVES, or without a plan)");
        make(2, 0, 5, 0, 5);
        dueCranes(-1, -1, -1);
        duePlan(5);
        dueCranes(0, -1, 1);
        // A bay that is worked off has no MOVES any more.
        make(2, 0, 5, 0, 7);
        duePlan(7);
        dueFails(2, 0, 5);
        dueCranes(-1, -1, 1);
        x.step(1);
        dueCranes(-1, -1, -1);
        duePlan(2);
        dueFails(-1, 1, 0);
        dueCranes(-1, -1, -1);
        dueLeft(2, 0, 2);
    }

    private static void lookNoneSuch() {
        check.part("11: IndexOutOfBoundsException if there is no such bay or what");
        make(1, 0);
        for (int what = -1; what <= 3; what++) {
            dueLook(INDEX, 0, what);
        }
        dueBay(0, 3, 4);
        dueLeft(0, 3, 4);
        dueLook(INDEX, 0, 3);
        dueLook(INDEX, 0, -1);
        dueLook(INDEX, 0, Integer.MAX_VALUE);
        dueLook(INDEX, 0, Integer.MIN_VALUE);
        dueLook(INDEX, 1, 0);
        dueLook(INDEX, 7, 0);
        dueLook(INDEX, 8, 0);
        dueLook(INDEX, -1, 0);
        dueLook(INDEX, Integer.MAX_VALUE, 0);
        dueLook(INDEX, Integer.MIN_VALUE, 0);
    }

    private static void countEach() {
        check.part("12: bays, cranes, plan, STEPS, rows, MOVES left");
        make(3, 1);
        dueCounts(0, 3, 0, -1, -1, 0);
        duePlan(0);
        dueCounts(0, 3, 1, 0, 0, 0);
        dueBay(0, 50, 200);
        dueCounts(1, 3, 0, -1, -1, 250);
        dueBay(1, 0, 0);
        dueBay(2, 1, 0);
        dueBay(3, 0, 1);
        dueCounts(4, 3, 0, -1, -1, 252);
        duePlan(250);
        dueCounts(4, 3, 1, 1, 3, 252);
        dueFails(200, 1, 50);
        dueCounts(4, 2, 1, 0, 1, 200);
        dueFails(200, 2, 0);
        dueCounts(4, 1, 1, 0, 1, 200);
        dueFails(-1, 0, 199);
        dueCounts(4, 0, 0, -1, -1, 1);
    }

    private static void dueCounts(int... due) {
        for (int what = 0; what < due.length; what++) {
            dueCount(due[what], what);
        }
    }

    private static void countAnother() {
        check.part("12: NONE for another what");
        make(1, 0, 5);
        duePlan(5);
        for (int what : new int[] {-1, 6, 7, -6, Integer.MIN_VALUE, Integer.MAX_VALUE}) {
            dueCount(-1, what);
        }
    }
}
