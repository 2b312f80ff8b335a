import java.util.Arrays;

/** Cranes along a quay, and the plan of least finish for the bays' work. */
public final class CranePlan {
    public static final int NONE = -1;

    private static final int MOST_CRANES = 4;
    private static final int MOST_GAP = 3;
    private static final int MOST_BAYS = 8;
    private static final int MOST_HATCH = 50;
    private static final int MOST_WORK = 200;
    private static final int MOST_RATE = 100;
    private static final int MOST_STEP = 20;
    // 8 bays can be shared out in order among 4 cranes in 11 over 3 ways.
    private static final int MOST_SHARINGS = 165;
    // Above every time and every number of steps.
    private static final int BEYOND = 1000000;

    private final Bays bays;
    private final Cranes cranes;
    private final Timetable timetable;
    private final Search search;
    private boolean planned;

    public CranePlan(int cranes, int gap) {
        this.bays = new Bays();
        this.cranes = new Cranes(held(cranes, 1, MOST_CRANES), held(gap, 0, MOST_GAP));
        this.timetable = new Timetable(this.bays, this.cranes);
        this.search = new Search(this.bays, this.cranes, this.timetable);
        this.planned = false;
    }

    public int bay(int hatch, int work) throws IllegalArgumentException, IllegalStateException {
        if (!within(hatch, 0, MOST_HATCH) || !within(work, 0, MOST_WORK)) {
            throw new IllegalArgumentException("moves that can't be");
        }
        if (bays.isFull()) {
            throw new IllegalStateException("no room for one more bay");
        }
        planned = false;
        return bays.add(hatch, work);
    }

    public boolean rate(int crane, int moves, int minutes)
            throws ArithmeticException, IllegalArgumentException {
        if (moves == 0) {
            throw new ArithmeticException("no moves");
        }
        if (!cranes.has(crane)) {
            throw new IllegalArgumentException("no such crane");
        }
        if (!within(moves, 1, MOST_RATE) || !within(minutes, 1, MOST_RATE)) {
            throw new IllegalArgumentException("a rate that can't be");
        }
        cranes.setRate(crane, moves, minutes);
        planned = false;
        return true;
    }

    public boolean step(int minutes) {
        if (!within(minutes, 0, MOST_STEP)) {
            return false;
        }
        cranes.stepMinutes = minutes;
        planned = false;
        return true;
    }

    public int plan() {
        // A plan that stands is THE PLAN still: whatever could change it makes it void.
        if (!planned) {
            planned = search.makeBest();
        }
        return planned ? timetable.finish : NONE;
    }

    public int works(int crane, int time) throws IndexOutOfBoundsException, IllegalStateException {
        if (!cranes.has(crane)) {
            throw new IndexOutOfBoundsException("no such crane");
        }
        if (!planned) {
            throw new IllegalStateException("no plan");
        }
        return timetable.bayWorkedAt(crane, time);
    }

    public int where(int crane, int time) throws IndexOutOfBoundsException, IllegalStateException {
        if (!cranes.has(crane) || time < 0) {
            throw new IndexOutOfBoundsException("no such crane or time");
        }
        if (!planned) {
            throw new IllegalStateException("no plan");
        }
        return timetable.bayCameTo(crane, time);
    }

    public int fails(int crane, int time)
            throws IndexOutOfBoundsException, IllegalArgumentException, IllegalStateException {
        if (!cranes.has(crane)) {
            throw new IndexOutOfBoundsException("no such crane");
        }
        if (time < 0 || cranes.isOut(crane)) {
            throw new IllegalArgumentException("no time of a plan, or a crane that is out");
        }
        if (!planned) {
            throw new IllegalStateException("no plan");
        }
        for (int bay = 0; bay < bays.total; bay++) {
            bays.takeOff(bay, timetable.doneBy(bay, time));
        }
        cranes.putOut(crane);
        planned = false;
        return plan();
    }

    public int bound() {
        if (cranes.able() == 0) {
            return NONE;
        }
        int greatest = cranes.timeTogether(bays.allMoves());
        for (int bay = 0; bay < bays.total; bay++) {
            greatest = Math.max(greatest, cranes.leastTime(bays.movesOf(bay)));
        }
        return greatest;
    }

    public int row(int i, int what) throws IllegalStateException, IndexOutOfBoundsException {
        if (!planned) {
            throw new IllegalStateException("no plan");
        }
        if (!within(i, 0, timetable.rows - 1) || !within(what, 0, 3)) {
            throw new IndexOutOfBoundsException("no such row, or nothing such of it");
        }
        return timetable.ofRow(i, what);
    }

    public int look(int bay, int what) throws IndexOutOfBoundsException {
        if (!bays.has(bay) || !within(what, 0, 2)) {
            throw new IndexOutOfBoundsException("no such bay, or nothing such of it");
        }
        if (what == 0) {
            return bays.hatch[bay];
        }
        if (what == 1) {
            return bays.work[bay];
        }
        return planned ? timetable.craneOf[bay] : NONE;
    }

    public int count(int what) {
        switch (what) {
            case 0:
                return bays.total;
            case 1:
                return cranes.able();
            case 2:
                return planned ? 1 : 0;
            case 3:
                return planned ? timetable.steps : NONE;
            case 4:
                return planned ? timetable.rows : NONE;
            case 5:
                return bays.allMoves();
            default:
                return NONE;
        }
    }

    private static boolean within(int value, int least, int most) {
        return value >= least && value <= most;
    }

    private static int held(int value, int least, int most) {
        return Math.max(least, Math.min(most, value));
    }

    // No rate is 0 here; the test is for the machine, which must never throw by itself.
    private static long dividedUp(long value, long divisor) {
        return divisor <= 0 ? 0 : (value + divisor - 1) / divisor;
    }

    /** The bays and the moves that are left in them. */
    private static final class Bays {
        private final int[] hatch = new int[MOST_BAYS];
        private final int[] work = new int[MOST_BAYS];
        private int total = 0;

        private boolean has(int bay) {
            return bay >= 0 && bay < total && bay < MOST_BAYS;
        }

        private boolean isFull() {
            return total >= MOST_BAYS;
        }

        private int add(int hatchMoves, int workMoves) {
            if (isFull()) {
                return NONE;
            }
            hatch[total] = hatchMoves;
            work[total] = workMoves;
            total++;
            return total - 1;
        }

        private int movesOf(int bay) {
            return has(bay) ? hatch[bay] + work[bay] : 0;
        }

        private int allMoves() {
            int sum = 0;
            for (int bay = 0; bay < total; bay++) {
                sum += movesOf(bay);
            }
            return sum;
        }

        private void takeOff(int bay, int done) {
            if (!has(bay)) {
                return;
            }
            int ofHatch = Math.min(done, hatch[bay]);
            hatch[bay] -= ofHatch;
            work[bay] -= Math.min(done - ofHatch, work[bay]);
        }
    }

    /** The cranes with their rates, and how they move along the quay. */
    private static final class Cranes {
        private final int total;
        private final int gap;
        private final int[] moves = new int[MOST_CRANES];
        private final int[] minutes = new int[MOST_CRANES];
        private final boolean[] out = new boolean[MOST_CRANES];
        private int stepMinutes = 1;

        private Cranes(int total, int gap) {
            this.total = total;
            this.gap = gap;
            Arrays.fill(moves, 1);
            Arrays.fill(minutes, 1);
        }

        private boolean has(int crane) {
            return crane >= 0 && crane < total && crane < MOST_CRANES;
        }

        private boolean isOut(int crane) {
            return !has(crane) || out[crane];
        }

        private void putOut(int crane) {
            if (has(crane)) {
                out[crane] = true;
            }
        }

        private void setRate(int crane, int newMoves, int newMinutes) {
            if (has(crane)) {
                moves[crane] = newMoves;
                minutes[crane] = newMinutes;
            }
        }

        private int able() {
            int sum = 0;
            for (int crane = 0; crane < total; crane++) {
                if (!isOut(crane)) {
                    sum++;
                }
            }
            return sum;
        }

        private int timeFor(int crane, int work) {
            return has(crane) ? (int) dividedUp((long) work * minutes[crane], moves[crane]) : 0;
        }

        private int movesIn(int crane, int time) {
            if (!has(crane) || minutes[crane] <= 0) {
                return 0;
            }
            return (int) ((long) time * moves[crane] / minutes[crane]);
        }

        private int leastTime(int work) {
            int least = BEYOND;
            for (int crane = 0; crane < total; crane++) {
                if (!isOut(crane)) {
                    least = Math.min(least, timeFor(crane, work));
                }
            }
            return least;
        }

        // The rates are added as one fraction, so that nothing is lost ahead of the rounding up.
        private int timeTogether(int work) {
            long above = 0;
            long below = 1;
            for (int crane = 0; crane < total; crane++) {
                if (!isOut(crane)) {
                    above = above * minutes[crane] + moves[crane] * below;
                    below *= minutes[crane];
                }
            }
            return (int) dividedUp(work * below, above);
        }
    }

    /** Who does what when, for one sharing of the bays among the cranes. */
    private static final class Timetable {
        private final Bays bays;
        private final Cranes cranes;
        private final int[] craneOf = new int[MOST_BAYS];
        private final int[] begin = new int[MOST_BAYS];
        private final int[] end = new int[MOST_BAYS];
        private final int[] first = new int[MOST_CRANES];
        private final int[] last = new int[MOST_CRANES];
        private final int[][] came = new int[MOST_CRANES][MOST_BAYS];
        private final int[] bayOfRow = new int[MOST_BAYS];
        private int rows = 0;
        private int finish = 0;
        private int steps = 0;

        private Timetable(Bays bays, Cranes cranes) {
            this.bays = bays;
            this.cranes = cranes;
        }

        private void clear() {
            Arrays.fill(craneOf, NONE);
            Arrays.fill(first, NONE);
            Arrays.fill(last, NONE);
            rows = 0;
            finish = 0;
            steps = 0;
        }

        // Bays are given in the order of their numbers: a crane's first one given is its FIRST.
        private void give(int bay, int crane) {
            if (!bays.has(bay) || !cranes.has(crane)) {
                return;
            }
            craneOf[bay] = crane;
            if (first[crane] == NONE) {
                first[crane] = bay;
            } else {
                steps += bay - last[crane];
            }
            last[crane] = bay;
        }

        private boolean keepsApart() {
            int before = NONE;
            for (int crane = 0; crane < MOST_CRANES; crane++) {
                if (first[crane] != NONE) {
                    if (before != NONE && tooNear(before, crane)) {
                        return false;
                    }
                    before = crane;
                }
            }
            return true;
        }

        private boolean tooNear(int crane, int next) {
            return first[next] - first[crane] <= cranes.gap || last[next] - last[crane] <= cranes.gap;
        }

        // A crane waits for the next one alone, so the times are known from the last crane down.
        private void setTimes() {
            int next = NONE;
            for (int crane = MOST_CRANES - 1; crane >= 0; crane--) {
                if (first[crane] != NONE) {
                    setTimesOf(crane, next);
                    next = crane;
                }
            }
        }

        private void setTimesOf(int crane, int next) {
            int time = 0;
            for (int bay = Math.max(0, first[crane]); bay <= last[crane] && bay < MOST_BAYS; bay++) {
                came[crane][bay] = time;
                if (craneOf[bay] == crane) {
                    begin[bay] = time;
                    time += cranes.timeFor(crane, bays.movesOf(bay));
                    end[bay] = time;
                    finish = Math.max(finish, time);
                }
                time = Math.max(time, whenCame(next, bay + 2 + cranes.gap)) + cranes.stepMinutes;
            }
        }

        private int whenCame(int crane, int bay) {
            if (!cranes.has(crane) || bay <= first[crane] || bay > last[crane] || bay >= MOST_BAYS) {
                return 0;
            }
            return came[crane][bay];
        }

        private boolean isBetterThan(int otherFinish, int otherSteps) {
            return finish != otherFinish ? finish < otherFinish : steps < otherSteps;
        }

        // No crane begins twice at one time, so time and crane tell any two rows apart.
        private void sortRows() {
            rows = 0;
            for (int bay = 0; bay < MOST_BAYS; bay++) {
                if (craneOf[bay] != NONE) {
                    int at = rows;
                    while (at > 0 && beginsAhead(bay, bayOfRow[at - 1])) {
                        bayOfRow[at] = bayOfRow[at - 1];
                        at--;
                    }
                    bayOfRow[at] = bay;
                    rows++;
                }
            }
        }

        private boolean beginsAhead(int bay, int other) {
            if (!bays.has(bay) || !bays.has(other)) {
                return false;
            }
            return begin[bay] != begin[other] ? begin[bay] < begin[other] : craneOf[bay] < craneOf[other];
        }

        private int ofRow(int i, int what) {
            if (i < 0 || i >= rows || i >= MOST_BAYS || !bays.has(bayOfRow[i])) {
                return NONE;
            }
            int bay = bayOfRow[i];
            switch (what) {
                case 0:
                    return begin[bay];
                case 1:
                    return craneOf[bay];
                case 2:
                    return bay;
                default:
                    return end[bay];
            }
        }

        private int bayWorkedAt(int crane, int time) {
            for (int bay = 0; bay < MOST_BAYS; bay++) {
                if (craneOf[bay] == crane && begin[bay] <= time && time < end[bay]) {
                    return bay;
                }
            }
            return NONE;
        }

        private int bayCameTo(int crane, int time) {
            if (!cranes.has(crane) || first[crane] == NONE) {
                return NONE;
            }
            int latest = first[crane];
            for (int bay = Math.max(0, latest); bay <= last[crane] && bay < MOST_BAYS; bay++) {
                if (came[crane][bay] <= time) {
                    latest = bay;
                }
            }
            return latest;
        }

        private int doneBy(int bay, int time) {
            if (!bays.has(bay) || craneOf[bay] == NONE || time <= begin[bay]) {
                return 0;
            }
            if (time >= end[bay]) {
                return bays.movesOf(bay);
            }
            return cranes.movesIn(craneOf[bay], time - begin[bay]);
        }
    }

    /** Goes through all sharings of the bays that have moves among the cranes that may work. */
    private static final class Search {
        private final Bays bays;
        private final Cranes cranes;
        private final Timetable timetable;
        private final int[] busy = new int[MOST_BAYS];
        private final int[] able = new int[MOST_CRANES];
        private final int[] choice = new int[MOST_BAYS];
        private final int[] best = new int[MOST_BAYS];
        private int busyBays = 0;
        private int ableCranes = 0;

        private Search(Bays bays, Cranes cranes, Timetable timetable) {
            this.bays = bays;
            this.cranes = cranes;
            this.timetable = timetable;
        }

        // The sharings come with the less crane ahead, so of equal ones the first is kept.
        private boolean makeBest() {
            gather();
            if (ableCranes == 0) {
                return false;
            }
            int leastFinish = BEYOND;
            int fewestSteps = BEYOND;
            boolean more = true;
            for (int tried = 0; more && tried < MOST_SHARINGS; tried++) {
                share(choice);
                if (timetable.keepsApart()) {
                    timetable.setTimes();
                    if (timetable.isBetterThan(leastFinish, fewestSteps)) {
                        leastFinish = timetable.finish;
                        fewestSteps = timetable.steps;
                        System.arraycopy(choice, 0, best, 0, MOST_BAYS);
                    }
                }
                more = nextChoice();
            }
            share(best);
            timetable.setTimes();
            timetable.sortRows();
            return true;
        }

        private void gather() {
            Arrays.fill(choice, 0);
            busyBays = 0;
            for (int bay = 0; bay < MOST_BAYS; bay++) {
                if (bays.movesOf(bay) > 0) {
                    busy[busyBays] = bay;
                    busyBays++;
                }
            }
            ableCranes = 0;
            for (int crane = 0; crane < MOST_CRANES; crane++) {
                if (!cranes.isOut(crane)) {
                    able[ableCranes] = crane;
                    ableCranes++;
                }
            }
        }

        private void share(int[] chosen) {
            timetable.clear();
            for (int i = 0; i < busyBays && i < chosen.length; i++) {
                if (chosen[i] >= 0 && chosen[i] < ableCranes) {
                    timetable.give(busy[i], able[chosen[i]]);
                }
            }
        }

        // The next sharing in which no bay has a less crane than a bay before it.
        private boolean nextChoice() {
            for (int i = busyBays - 1; i >= 0; i--) {
                if (choice[i] < ableCranes - 1) {
                    int crane = choice[i] + 1;
                    for (int k = i; k < busyBays; k++) {
                        choice[k] = crane;
                    }
                    return true;
                }
            }
            return false;
        }
    }
}
