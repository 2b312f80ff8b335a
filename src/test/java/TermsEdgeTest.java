/** Each sentence of the document's 'Terms' that names a boundary, with a test of its own. */
public final class TermsEdgeTest extends Calls {
    public static void main(String[] args) {
        eightBaysAtMost();
        hatchAndWorkTogether();
        oneToFourCranes();
        gapOfNoneToThree();
        ratesAtTheirEnds();
        rateAtFirst();
        stepsAtTheirEnds();
        eachBayThatHasMoves();
        cranesNeverCross();
        standsAtItsFirst();
        staysAtItsLast();
        withoutBaysStandsAside();
        workRoundedUp();
        workOfABayRoundedOnce();
        firstsMoreThanGapApart();
        lastsMoreThanGapApart();
        nextOneWithBays();
        leavesWhenTheNextHasCome();
        hasComeToAllUpToItsFirst();
        waitsAtBaysWithoutWorkToo();
        waitsForOneThatWaits();
        finishWithoutWork();
        leastFinishFirst();
        leastFinishOfAllSharings();
        thenFewestSteps();
        thenTheLessCraneAhead();
        whatIsToldMakesThePlanVoid();
        aCraneOutHasNoBays();
        theExceptionToldFirst();
        fiveHundredAndTwelveCalls();
        check.end();
    }

    private static void eightBaysAtMost() {
        check.part("Terms: BAYS 0, 1, .. (8 at most)");
        make(1, 0);
        for (int number = 0; number < 8; number++) {
            dueLook(INDEX, number, 0);
            dueBay(number, 1, number);
            dueLeft(number, 1, number);
            dueCount(number + 1, 0);
        }
        dueBay(STATE, 1, 8);
        dueLook(INDEX, 8, 0);
        dueCount(8, 0);
        // All eight are worked at: 8 + 28 moves and 7 steps.
        duePlan(43);
        dueCount(8, 4);
        dueCount(7, 3);
        dueCranes(0, 0, 0, 0, 0, 0, 0, 0);
    }

    private static void hatchAndWorkTogether() {
        check.part("Terms: MOVES: HATCH (0 .. 50) and WORK (0 .. 200) together");
        int[][] moves = {{0, 0}, {1, 0}, {0, 1}, {50, 0}, {0, 200}, {50, 200}, {49, 199}};
        for (int[] pair : moves) {
            make(1, 0);
            dueBay(0, pair[0], pair[1]);
            dueLeft(0, pair[0], pair[1]);
            dueCount(pair[0] + pair[1], 5);
            dueBound(pair[0] + pair[1]);
            duePlan(pair[0] + pair[1]);
        }
        int[][] wrong = {{-1, 0}, {51, 0}, {0, -1}, {0, 201}, {-1, 201}, {51, -1}, {200, 50},
            {Integer.MIN_VALUE, 0}, {Integer.MAX_VALUE, 0}, {0, Integer.MIN_VALUE}, {0, Integer.MAX_VALUE}};
        make(1, 0);
        for (int[] pair : wrong) {
            dueBay(ARGUMENT, pair[0], pair[1]);
        }
        dueCount(0, 0);
    }

    private static void oneToFourCranes() {
        check.part("Terms: CRANES 0 .. C - 1 (C 1 .. 4)");
        for (int cranes = 1; cranes <= 4; cranes++) {
            make(cranes, 0, 9, 9, 9, 9);
            dueCount(cranes, 1);
            duePlan(new int[] {39, 19, 19, 9}[cranes - 1]);
            dueWorks(INDEX, cranes, 0);
            dueWorks(0, 0, 0);
            dueWhere(INDEX, cranes, 0);
            dueFails(INDEX, cranes, 0);
            dueWorks(new int[] {0, 2, 3, 3}[cranes - 1], cranes - 1, 0);
        }
    }

    private static void gapOfNoneToThree() {
        check.part("Terms: GAP (0 .. 3) bays free between any two");
        for (int gap = 0; gap <= 3; gap++) {
            for (int apart = 1; apart < 8; apart++) {
                int[] works = new int[apart + 1];
                works[0] = 9;
                works[apart] = 9;
                make(2, gap, works);
                duePlan(apart > gap ? 9 : 18 + apart);
                dueLook(apart > gap ? 1 : 0, apart, 2);
            }
        }
    }

    private static void ratesAtTheirEnds() {
        check.part("Terms: so many moves in so many minutes (1 .. 100 in 1 .. 100)");
        make(1, 0, 200);
        int[][] rateAndFinish = {{1, 1, 200}, {1, 100, 20000}, {100, 1, 2}, {100, 100, 200}, {99, 1, 3}, {1, 99, 19800}};
        for (int[] row : rateAndFinish) {
            dueRate(true, 0, row[0], row[1]);
            dueBound(row[2]);
            duePlan(row[2]);
        }
        // The rate of 1 in 99 stands through all that is refused.
        for (int wrong : new int[] {-100, -1, 101, Integer.MIN_VALUE, Integer.MAX_VALUE}) {
            dueRate(ARGUMENT, 0, wrong, 1);
            dueRate(ARGUMENT, 0, 1, wrong);
        }
        dueRate(ARGUMENT, 0, 1, 0);
        dueRate(ARITHMETIC, 0, 0, 1);
        dueBound(19800);
    }

    private static void rateAtFirst() {
        check.part("Terms: RATE: 1 in 1 at first");
        make(4, 0, 9, 9, 9, 9);
        duePlan(9);
        for (int crane = 0; crane < 4; crane++) {
            dueWholeRow(crane, 0, crane, crane, 9);
        }
        dueBound(9);
        make(4, 0, 8, 8, 8, 8, 8, 1);
        // 41 moves by 4 in a minute.
        dueBound(11);
    }

    private static void stepsAtTheirEnds() {
        check.part("Terms: a STEP to the next bay takes STEP minutes (0 .. 20; 1 at first)");
        make(1, 0, 3, 3);
        duePlan(7);
        dueStep(true, 0);
        duePlan(6);
        dueWholeRow(1, 3, 0, 1, 6);
        dueStep(true, 20);
        duePlan(26);
        dueWholeRow(1, 23, 0, 1, 26);
        for (int wrong : new int[] {-1, 21, Integer.MIN_VALUE, Integer.MAX_VALUE}) {
            dueStep(false, wrong);
        }
        dueStep(true, 1);
        duePlan(7);
    }

    private static void eachBayThatHasMoves() {
        check.part("Terms: A PLAN gives each bay that has MOVES a crane");
        make(2, 0, 0, 4, 0, 4, 0);
        duePlan(4);
        dueCranes(-1, 0, -1, 1, -1);
        dueCount(2, 4);
        x = new CranePlan(1, 0);
        x.bay(1, 0);
        x.bay(0, 0);
        x.bay(0, 1);
        duePlan(4);
        dueCranes(0, -1, 0);
        dueCount(2, 4);
    }

    // Crossed, crane 0 could do bay 1 and crane 1 bay 0, both in 2 minutes.
    private static void cranesNeverCross() {
        check.part("Terms: none less than that of a bay before it (so cranes never cross)");
        make(2, 0, 2, 20);
        x.rate(0, 10, 1);
        duePlan(4);
        dueCranes(0, 0);
        make(2, 0, 20, 2);
        x.rate(1, 10, 1);
        duePlan(4);
        dueCranes(1, 1);
    }

    private static void standsAtItsFirst() {
        check.part("Terms: stands at its FIRST of them at the beginning (time 0), works at it");
        make(2, 0, 0, 0, 5, 0, 0, 0, 5);
        duePlan(5);
        dueWhere(2, 0, 0);
        dueWorks(2, 0, 0);
        dueWhere(6, 1, 0);
        dueWorks(6, 1, 0);
        dueRow(0, 0, 0);
        dueRow(0, 1, 0);
        make(1, 0, 0, 0, 0, 0, 0, 0, 0, 5);
        duePlan(5);
        dueWhere(7, 0, 0);
        dueCount(0, 3);
    }

    private static void staysAtItsLast() {
        check.part("Terms: goes on bay by bay to its LAST one, and stays there");
        make(1, 0, 2, 0, 0, 2, 0, 0);
        duePlan(7);
        int[] way = {0, 0, 0, 1, 2, 3, 3, 3, 3};
        for (int time = 0; time < way.length; time++) {
            dueWhere(way[time], 0, time);
        }
        dueWhere(3, 0, Integer.MAX_VALUE);
        dueCount(3, 3);
    }

    private static void withoutBaysStandsAside() {
        check.part("Terms: A crane without bays stands aside");
        make(3, 3, 9, 9, 9);
        duePlan(29);
        for (int crane = 1; crane < 3; crane++) {
            dueWhere(-1, crane, 0);
            dueWhere(-1, crane, Integer.MAX_VALUE);
            dueWorks(-1, crane, 0);
        }
        make(1, 0);
        duePlan(0);
        dueWhere(-1, 0, 0);
        dueWorks(-1, 0, 0);
    }

    private static void workRoundedUp() {
        check.part("Terms: WORK takes MOVES * minutes / moves of its crane's rate, rounded up");
        int[][] workRateFinish = {{6, 3, 2, 4}, {7, 3, 2, 5}, {8, 3, 2, 6}, {9, 3, 2, 6},
            {1, 100, 1, 1}, {100, 100, 1, 1}, {101, 100, 1, 2}, {200, 100, 1, 2},
            {1, 100, 100, 1}, {1, 99, 100, 2}, {99, 99, 100, 100}, {100, 99, 100, 102},
            {1, 1, 100, 100}, {200, 1, 100, 20000}, {200, 99, 100, 203}};
        for (int[] row : workRateFinish) {
            make(1, 0, row[0]);
            x.rate(0, row[1], row[2]);
            duePlan(row[3]);
            dueRow(row[3], 0, 3);
        }
    }

    private static void workOfABayRoundedOnce() {
        check.part("Terms: MOVES are rounded together at a bay, and at each bay by itself");
        x = new CranePlan(1, 0);
        x.bay(1, 1);
        x.rate(0, 2, 1);
        duePlan(1);
        make(1, 0, 1, 1, 1);
        x.rate(0, 2, 1);
        x.step(0);
        duePlan(3);
    }

    private static void firstsMoreThanGapApart() {
        check.part("Terms: the FIRST bays are more than GAP apart");
        for (int gap = 1; gap <= 3; gap++) {
            int[] tooNear = new int[8];
            tooNear[2] = 10;
            tooNear[2 + gap] = 4;
            tooNear[3 + gap] = 4;
            make(2, gap, tooNear);
            duePlan(18 + gap + 1);
            dueLook(0, 3 + gap, 2);
            int[] farEnough = new int[8];
            farEnough[2] = 10;
            farEnough[3 + gap] = 4;
            farEnough[4 + gap] = 4;
            make(2, gap, farEnough);
            duePlan(10);
            dueLook(0, 2, 2);
            dueLook(1, 3 + gap, 2);
            dueLook(1, 4 + gap, 2);
        }
    }

    private static void lastsMoreThanGapApart() {
        check.part("Terms: so are the LAST ones");
        for (int gap = 1; gap <= 3; gap++) {
            int[] tooNear = new int[8];
            tooNear[0] = 4;
            tooNear[1] = 4;
            tooNear[1 + gap] = 10;
            make(2, gap, tooNear);
            duePlan(18 + gap + 1);
            dueLook(0, gap + 1, 2);
            int[] farEnough = new int[8];
            farEnough[0] = 4;
            farEnough[1] = 4;
            farEnough[2 + gap] = 10;
            make(2, gap, farEnough);
            duePlan(10);
            dueLook(0, 0, 2);
            dueLook(0, 1, 2);
            dueLook(1, 2 + gap, 2);
        }
    }

    private static void nextOneWithBays() {
        check.part("Terms: of each and the next one with bays");
        // Cranes 0 and 2 need one bay between them, not one for crane 1 as well.
        make(3, 1, 5, 0, 5);
        duePlan(5);
        dueCranes(0, -1, 1);
        dueFails(5, 1, 0);
        dueCranes(0, -1, 2);
        // They are kept apart though crane 1 is not between them any more.
        make(3, 1, 5, 5);
        duePlan(11);
        dueFails(11, 1, 0);
        dueCranes(0, 0);
        // Three with bays: each is kept from its neighbour.
        make(3, 1, 5, 0, 5, 0, 5);
        duePlan(5);
        dueCranes(0, -1, 1, -1, 2);
        make(3, 1, 5, 0, 5, 5);
        duePlan(11);
        dueCranes(0, -1, 1, 1);
    }

    // Crane 1 comes to bay 3 at 5; crane 0 is done with bay 0 a minute ahead, then, or after it.
    private static void leavesWhenTheNextHasCome() {
        check.part("Terms: a crane leaves a bay b for b + 1 not ahead of when the next one has come to b + 2 + GAP");
        int[][] workAndBegin = {{1, 6}, {4, 6}, {5, 6}, {6, 7}};
        for (int[] pair : workAndBegin) {
            make(2, 1, pair[0], 20, 4, 20);
            duePlan(pair[1] + 20);
            dueCranes(0, 0, 1, 1);
            dueWholeRow(2, 5, 1, 3, 25);
            dueWholeRow(3, pair[1], 0, 1, pair[1] + 20);
            dueWhere(0, 0, pair[1] - 1);
            dueWhere(1, 0, pair[1]);
            dueWorks(-1, 0, pair[1] - 1);
        }
        // Without time for a step it comes as the next one comes.
        make(2, 1, 1, 20, 4, 20);
        x.step(0);
        duePlan(24);
        dueWhere(0, 0, 3);
        dueWhere(1, 0, 4);
        dueWhere(3, 1, 4);
    }

    private static void hasComeToAllUpToItsFirst() {
        check.part("Terms: at the beginning it has come to all bays up to its FIRST");
        for (int gap = 0; gap <= 3; gap++) {
            int[] works = new int[8];
            works[0] = 3;
            works[1] = 3;
            works[2 + gap] = 9;
            works[3 + gap] = 1;
            make(2, gap, works);
            duePlan(11);
            dueLook(0, 1, 2);
            dueLook(1, 2 + gap, 2);
            dueWholeRow(2, 4, 0, 1, 7);
            dueWholeRow(3, 10, 1, 3 + gap, 11);
        }
    }

    private static void waitsAtBaysWithoutWorkToo() {
        check.part("Terms: it waits at b till then");
        make(2, 3, 1, 0, 5, 0, 3, 4, 8);
        x.step(2);
        duePlan(19);
        dueCranes(0, -1, 0, -1, 1, 1, 1);
        dueWholeRow(2, 5, 1, 5, 9);
        dueWholeRow(3, 11, 1, 6, 19);
        dueWholeRow(4, 13, 0, 2, 18);
        dueWhere(0, 0, 6);
        dueWhere(1, 0, 7);
        dueWhere(1, 0, 12);
        dueWhere(2, 0, 13);
        dueWorks(-1, 0, 7);
        dueWorks(-1, 0, 12);
    }

    private static void waitsForOneThatWaits() {
        check.part("Terms: it waits for one that waits itself");
        make(3, 1, 2, 9, 2, 9, 6, 9);
        duePlan(18);
        dueCranes(0, 0, 1, 1, 2, 2);
        dueWholeRow(0, 0, 0, 0, 2);
        dueWholeRow(1, 0, 1, 2, 2);
        dueWholeRow(2, 0, 2, 4, 6);
        dueWholeRow(3, 7, 2, 5, 16);
        dueWholeRow(4, 8, 1, 3, 17);
        dueWholeRow(5, 9, 0, 1, 18);
    }

    private static void finishWithoutWork() {
        check.part("Terms: Its FINISH is when the last work ends (0 without any)");
        for (int bays = 0; bays <= 8; bays++) {
            make(4, 0, new int[bays]);
            duePlan(0);
            dueCount(1, 2);
            dueCount(0, 3);
            dueCount(0, 4);
        }
        // The last work is not that of the last bay, nor that of the last crane.
        make(2, 0, 9, 2);
        duePlan(9);
        dueRow(9, 0, 3);
        dueRow(2, 1, 3);
    }

    private static void leastFinishFirst() {
        check.part("Terms: THE PLAN is that of least FINISH");
        // Bay 3 by crane 1 ends at 15 without a step; by crane 0, with three, at 13 or later.
        make(2, 0, 5, 0, 0, 5);
        x.rate(1, 1, 3);
        int[][] stepAndPlan = {{0, 10, 3}, {1, 13, 3}, {2, 15, 0}, {20, 15, 0}};
        for (int[] row : stepAndPlan) {
            x.step(row[0]);
            duePlan(row[1]);
            dueCount(row[2], 3);
        }
    }

    // All eight bays by the last of four cranes: the sharing that comes after all others.
    private static void leastFinishOfAllSharings() {
        check.part("Terms: THE PLAN is that of least FINISH, of all that there are");
        make(4, 0, 100, 100, 100, 100, 100, 100, 100, 100);
        x.rate(3, 100, 1);
        duePlan(15);
        dueCranes(3, 3, 3, 3, 3, 3, 3, 3);
        make(4, 3, 100, 100, 100, 100, 100, 100, 100, 100);
        x.rate(0, 100, 1);
        duePlan(15);
        dueCranes(0, 0, 0, 0, 0, 0, 0, 0);
    }

    private static void thenFewestSteps() {
        check.part("Terms: of such that with the fewest STEPS of all cranes together");
        // All by crane 0 ends at 13 with three steps; bay 3 by crane 1 ends at 13 with none.
        make(2, 0, 5, 0, 0, 5);
        x.rate(1, 5, 13);
        duePlan(13);
        dueCount(0, 3);
        dueCranes(0, -1, -1, 1);
        // A step costs no time here, and is still one too many.
        make(2, 0, 3, 2);
        x.rate(1, 2, 5);
        x.step(0);
        duePlan(5);
        dueCount(0, 3);
        dueCranes(0, 1);
        // Bay 1 may go with bay 0 (one step) or with bay 3 (two), or all three with crane 0 (three).
        make(3, 0, 4, 4, 0, 4, 20);
        duePlan(20);
        dueCount(1, 3);
        dueCranes(0, 0, -1, 1, 2);
        make(3, 0, 4, 0, 4, 4, 20);
        duePlan(20);
        dueCount(1, 3);
        dueCranes(0, -1, 1, 1, 2);
    }

    private static void thenTheLessCraneAhead() {
        check.part("Terms: of such the first: bays by number, the less crane ahead");
        make(4, 0, 9);
        duePlan(9);
        dueCranes(0);
        // With a gap of 3 only two cranes find room: the least two of the four.
        make(4, 3, 9, 0, 9, 0, 9, 0, 9);
        duePlan(21);
        dueCranes(0, -1, 0, -1, 1, -1, 1);
        make(2, 0, 5, 5, 5);
        duePlan(11);
        dueCranes(0, 0, 1);
        // Any two neighbours could share a crane, at one step and 11 minutes.
        make(3, 0, 5, 5, 5, 5);
        duePlan(11);
        dueCount(1, 3);
        dueCranes(0, 0, 1, 2);
    }

    private static void whatIsToldMakesThePlanVoid() {
        check.part("Terms: What is told makes the plan void");
        for (int told = 0; told < 4; told++) {
            make(2, 0, 5, 5);
            duePlan(5);
            dueCount(1, 2);
            tellNothingNew(told);
            dueCount(0, 2);
            dueCount(-1, 3);
            dueCount(-1, 4);
            dueLook(-1, 0, 2);
            dueWorks(STATE, 0, 0);
            dueWhere(STATE, 0, 0);
            dueRow(STATE, 0, 0);
            dueFails(STATE, 0, 0);
            duePlan(5);
            dueCount(1, 2);
        }
        make(2, 0, 5, 5);
        duePlan(5);
        duePlan(5);
        dueBound(5);
        dueWorks(0, 0, 0);
        dueCount(1, 2);
    }

    private static void tellNothingNew(int told) {
        if (told == 0) {
            dueBay(2, 0, 0);
        } else if (told == 1) {
            dueRate(true, 0, 1, 1);
        } else if (told == 2) {
            dueRate(true, 1, 1, 1);
        } else {
            dueStep(true, 1);
        }
    }

    private static void aCraneOutHasNoBays() {
        check.part("Terms: A crane that FAILS is out: no plan gives it bays");
        for (int out = 0; out < 3; out++) {
            make(3, 0, 6, 6, 6);
            duePlan(6);
            dueFails(13, out, 0);
            dueRate(true, out, 100, 1);
            dueBay(3, 0, 6);
            duePlan(13);
            dueCount(2, 1);
            dueWhere(-1, out, 0);
            dueWorks(-1, out, 0);
            int low = out == 0 ? 1 : 0;
            int high = out == 2 ? 1 : 2;
            dueCranes(low, low, high, high);
        }
    }

    private static void theExceptionToldFirst() {
        check.part("Terms: Of several exceptions the one told first is thrown");
        make(1, 0);
        // Without a plan: the wrong crane, time or argument is told ahead of it.
        dueWorks(INDEX, 1, 0);
        dueWorks(INDEX, -1, 0);
        dueWhere(INDEX, 1, 0);
        dueWhere(INDEX, 0, -1);
        dueFails(INDEX, 1, 0);
        dueFails(INDEX, 1, -1);
        dueFails(ARGUMENT, 0, -1);
        // The missing plan is told ahead of a row that is not there.
        dueRow(STATE, 0, 0);
        dueRow(STATE, -1, 0);
        dueRow(STATE, 0, 4);
        // No moves are told ahead of a wrong crane and wrong minutes.
        dueRate(ARITHMETIC, 1, 0, 1);
        dueRate(ARITHMETIC, -1, 0, 1);
        dueRate(ARITHMETIC, 0, 0, 0);
        dueRate(ARITHMETIC, 0, 0, 101);
        dueRate(ARITHMETIC, 4, 0, 101);
        // Wrong moves of a bay are told ahead of the eight that there are.
        make(1, 0, 1, 1, 1, 1, 1, 1, 1, 1);
        dueBay(ARGUMENT, 51, 0);
        dueBay(ARGUMENT, 0, 201);
        dueBay(STATE, 50, 200);
        // A crane that is out is told ahead of the missing plan.
        duePlan(15);
        dueFails(-1, 0, 0);
        dueFails(ARGUMENT, 0, 0);
        dueFails(ARGUMENT, 0, -1);
        dueFails(INDEX, 1, -1);
    }

    private static void fiveHundredAndTwelveCalls() {
        check.part("What it is: at most 512 calls after it has been made");
        x = new CranePlan(2, 1);
        x.bay(3, 0);
        x.bay(0, 3);
        x.bay(5, 5);
        x.bay(0, 3);
        for (int turn = 0; turn < 168; turn++) {
            dueStep(true, turn % 21);
            duePlan(13 + 2 * (turn % 21));
            dueCount(19, 5);
        }
        // These are the calls 509 to 512.
        dueStep(true, 2);
        duePlan(17);
        dueFails(10, 1, 10);
        dueCount(6, 5);
    }
}
