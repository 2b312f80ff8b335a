import java.util.Random;
import java.util.concurrent.Callable;

/**
 * Long runs of calls, answered by the class and by a plain model of the document. The model goes
 * through every giving of bays and moves the cranes minute by minute, so that it shares no
 * reckoning with the class.
 */
public final class ModelTest {
    private static final int CALLS = 512;

    public static void main(String[] args) {
        Check check = new Check();
        Random random = new Random(20261115);
        for (int run = 0; run < 1000 && !check.hasWrong(); run++) {
            check.part("run " + run);
            new Run(check, random, run % 8 == 7).go();
        }
        check.end();
    }

    private static final class Run {
        private final Check check;
        private final Random random;
        private final int mostRate;
        private final int mostHatch;
        private final int mostWork;
        private final int mostStep;
        private final StringBuilder told = new StringBuilder();
        private CranePlan x;
        private Model model;
        private int calls = 0;

        // Small numbers make many equal plans, the document's whole ranges the long ones.
        Run(Check check, Random random, boolean whole) {
            this.check = check;
            this.random = random;
            this.mostRate = whole ? 100 : 4;
            this.mostHatch = whole ? 50 : 5;
            this.mostWork = whole ? 200 : 1 + random.nextInt(14);
            this.mostStep = whole ? 20 : random.nextInt(5);
        }

        void go() {
            int cranes = random.nextInt(6);
            int gap = random.nextInt(6) - 1;
            x = new CranePlan(cranes, gap);
            model = new Model(cranes, gap);
            told.append("new(").append(cranes).append(", ").append(gap).append(")");
            while (calls < CALLS && !check.hasWrong()) {
                oneCall(random.nextInt(100));
            }
        }

        // What is answered beyond the last call that the document speaks of is free.
        private void due(String text, Callable<Object> asked, Callable<Object> wanted) {
            calls++;
            if (calls <= CALLS) {
                check.due(Check.answerOf(wanted), told + " " + text, asked);
            }
        }

        private void oneCall(int kind) {
            int crane = random.nextInt(6) - 1;
            int time = random.nextInt(Math.max(1, model.finish) + 5) - 2;
            if (kind < 4) {
                int hatch = random.nextInt(mostHatch + 2) - 1;
                int work = random.nextInt(mostWork + 2) - 1;
                tell("bay(" + hatch + ", " + work + ")", () -> x.bay(hatch, work), () -> model.bay(hatch, work));
            } else if (kind < 6) {
                int moves = random.nextInt(mostRate + 1);
                int minutes = random.nextInt(mostRate + 1);
                tell("rate(" + crane + ", " + moves + ", " + minutes + ")",
                        () -> x.rate(crane, moves, minutes), () -> model.rate(crane, moves, minutes));
            } else if (kind < 8) {
                int minutes = random.nextInt(mostStep + 2) - 1;
                tell("step(" + minutes + ")", () -> x.step(minutes), () -> model.step(minutes));
            } else if (kind < 15) {
                due("plan()", () -> x.plan(), () -> model.plan());
                askAllSometimes();
            } else if (kind == 15 && random.nextInt(4) == 0) {
                tell("fails(" + crane + ", " + time + ")", () -> x.fails(crane, time), () -> model.fails(crane, time));
                askAllSometimes();
            } else {
                ask(kind, crane, time);
            }
        }

        private void tell(String text, Callable<Object> asked, Callable<Object> wanted) {
            due(text, asked, wanted);
            told.append(' ').append(text);
        }

        private void ask(int kind, int crane, int time) {
            int i = random.nextInt(11) - 1;
            int what = random.nextInt(9) - 2;
            if (kind < 32) {
                due("works(" + crane + ", " + time + ")", () -> x.works(crane, time), () -> model.works(crane, time));
            } else if (kind < 48) {
                due("where(" + crane + ", " + time + ")", () -> x.where(crane, time), () -> model.where(crane, time));
            } else if (kind < 54) {
                due("bound()", () -> x.bound(), () -> model.bound());
            } else if (kind < 70) {
                due("row(" + i + ", " + what + ")", () -> x.row(i, what), () -> model.row(i, what));
            } else if (kind < 85) {
                due("look(" + i + ", " + what + ")", () -> x.look(i, what), () -> model.look(i, what));
            } else {
                due("count(" + what + ")", () -> x.count(what), () -> model.count(what));
            }
        }

        private void askAllSometimes() {
            if (random.nextInt(6) != 0) {
                return;
            }
            for (int what = 0; what < 6; what++) {
                int asked = what;
                due("count(" + what + ")", () -> x.count(asked), () -> model.count(asked));
            }
            for (int i = 0; i < 8; i++) {
                for (int what = 0; what < 4; what++) {
                    int at = i;
                    int asked = what;
                    due("row(" + i + ", " + what + ")", () -> x.row(at, asked), () -> model.row(at, asked));
                    due("look(" + i + ", " + what + ")", () -> x.look(at, asked), () -> model.look(at, asked));
                }
            }
        }
    }

    private static final class Model {
        private final int cranes;
        private final int gap;
        private final int[] hatch = new int[8];
        private final int[] work = new int[8];
        private final int[] moves = {1, 1, 1, 1};
        private final int[] minutes = {1, 1, 1, 1};
        private final boolean[] out = new boolean[4];
        private int bays = 0;
        private int step = 1;
        private Tour tour = null;
        int finish = 0;

        Model(int cranes, int gap) {
            this.cranes = cranes < 1 ? 1 : cranes > 4 ? 4 : cranes;
            this.gap = gap < 0 ? 0 : gap > 3 ? 3 : gap;
        }

        int bay(int h, int w) {
            if (h < 0 || h > 50 || w < 0 || w > 200) {
                throw new IllegalArgumentException();
            }
            if (bays == 8) {
                throw new IllegalStateException();
            }
            hatch[bays] = h;
            work[bays] = w;
            tour = null;
            return bays++;
        }

        boolean rate(int crane, int m, int t) {
            if (m == 0) {
                throw new ArithmeticException();
            }
            if (noCrane(crane) || m < 1 || m > 100 || t < 1 || t > 100) {
                throw new IllegalArgumentException();
            }
            moves[crane] = m;
            minutes[crane] = t;
            tour = null;
            return true;
        }

        boolean step(int t) {
            if (t < 0 || t > 20) {
                return false;
            }
            step = t;
            tour = null;
            return true;
        }

        int plan() {
            tour = null;
            finish = 0;
            if (able() > 0) {
                int[] given = {-1, -1, -1, -1, -1, -1, -1, -1};
                give(given, 0, 0);
                finish = tour.finish;
            }
            return tour == null ? -1 : tour.finish;
        }

        private void give(int[] given, int bay, int least) {
            if (bay == bays) {
                Tour next = new Tour(this, given);
                if (next.mayBe() && next.endsBy(tour == null ? Integer.MAX_VALUE : tour.finish)) {
                    if (tour == null || next.finish < tour.finish
                            || next.finish == tour.finish && next.steps() < tour.steps()) {
                        tour = next;
                    }
                }
                return;
            }
            if (hatch[bay] + work[bay] == 0) {
                given[bay] = -1;
                give(given, bay + 1, least);
                return;
            }
            for (int crane = least; crane < cranes; crane++) {
                if (!out[crane]) {
                    given[bay] = crane;
                    give(given, bay + 1, crane);
                }
            }
        }

        int works(int crane, int time) {
            if (noCrane(crane)) {
                throw new IndexOutOfBoundsException();
            }
            needPlan();
            for (int bay = 0; bay < bays; bay++) {
                if (tour.given[bay] == crane && time >= tour.begin[bay] && time < tour.end[bay]) {
                    return bay;
                }
            }
            return -1;
        }

        int where(int crane, int time) {
            if (noCrane(crane) || time < 0) {
                throw new IndexOutOfBoundsException();
            }
            needPlan();
            int at = -1;
            for (int bay = 0; bay < bays; bay++) {
                if (tour.came[crane][bay] >= 0 && tour.came[crane][bay] <= time) {
                    at = bay;
                }
            }
            return at;
        }

        int fails(int crane, int time) {
            if (noCrane(crane)) {
                throw new IndexOutOfBoundsException();
            }
            if (time < 0 || out[crane]) {
                throw new IllegalArgumentException();
            }
            needPlan();
            for (int bay = 0; bay < bays; bay++) {
                int who = tour.given[bay];
                if (who >= 0) {
                    for (int k = 1; (long) k * minutes[who] <= (long) (time - tour.begin[bay]) * moves[who]; k++) {
                        if (hatch[bay] > 0) {
                            hatch[bay]--;
                        } else if (work[bay] > 0) {
                            work[bay]--;
                        }
                    }
                }
            }
            out[crane] = true;
            return plan();
        }

        int bound() {
            if (able() == 0) {
                return -1;
            }
            int least = 0;
            while (!enoughFor(least)) {
                least++;
            }
            return least;
        }

        private boolean enoughFor(int time) {
            int most = 0;
            long all = 1;
            for (int crane = 0; crane < cranes; crane++) {
                all *= minutes[crane];
            }
            long together = 0;
            for (int crane = 0; crane < cranes; crane++) {
                if (!out[crane]) {
                    most = Math.max(most, time * moves[crane] / minutes[crane]);
                    together += all / minutes[crane] * moves[crane] * time;
                }
            }
            for (int bay = 0; bay < bays; bay++) {
                if (hatch[bay] + work[bay] > most) {
                    return false;
                }
            }
            return together >= all * left();
        }

        int row(int i, int what) {
            needPlan();
            int at = 0;
            for (int time = 0; time <= tour.finish; time++) {
                for (int crane = 0; crane < cranes; crane++) {
                    for (int bay = 0; bay < bays; bay++) {
                        if (tour.given[bay] == crane && tour.begin[bay] == time) {
                            if (at == i && what >= 0 && what < 4) {
                                return new int[] {time, crane, bay, tour.end[bay]}[what];
                            }
                            at++;
                        }
                    }
                }
            }
            throw new IndexOutOfBoundsException();
        }

        int look(int bay, int what) {
            if (bay < 0 || bay >= bays || what < 0 || what > 2) {
                throw new IndexOutOfBoundsException();
            }
            return new int[] {hatch[bay], work[bay], tour == null ? -1 : tour.given[bay]}[what];
        }

        int count(int what) {
            switch (what) {
                case 0: return bays;
                case 1: return able();
                case 2: return tour == null ? 0 : 1;
                case 3: return tour == null ? -1 : tour.steps();
                case 4: return tour == null ? -1 : tour.rows();
                case 5: return left();
                default: return -1;
            }
        }

        private int left() {
            int sum = 0;
            for (int bay = 0; bay < bays; bay++) {
                sum += hatch[bay] + work[bay];
            }
            return sum;
        }

        private int able() {
            int sum = 0;
            for (int crane = 0; crane < cranes; crane++) {
                sum += out[crane] ? 0 : 1;
            }
            return sum;
        }

        private boolean noCrane(int crane) {
            return crane < 0 || crane >= cranes;
        }

        private void needPlan() {
            if (tour == null) {
                throw new IllegalStateException();
            }
        }
    }

    /** One giving of the bays, gone through minute by minute. */
    private static final class Tour {
        private final Model model;
        private final int[] given;
        private final int[] begin = new int[8];
        private final int[] end = {-1, -1, -1, -1, -1, -1, -1, -1};
        private final int[][] came = new int[4][8];
        private final int[] at = {-1, -1, -1, -1};
        private final int[] arrives = {-1, -1, -1, -1};
        private int finish = 0;

        Tour(Model model, int[] given) {
            this.model = model;
            this.given = given.clone();
            for (int[] row : came) {
                java.util.Arrays.fill(row, -1);
            }
        }

        private int first(int crane) {
            for (int bay = 0; bay < 8; bay++) {
                if (given[bay] == crane) {
                    return bay;
                }
            }
            return -1;
        }

        private int last(int crane) {
            for (int bay = 7; bay >= 0; bay--) {
                if (given[bay] == crane) {
                    return bay;
                }
            }
            return -1;
        }

        private int nextOf(int crane) {
            for (int next = crane + 1; next < 4; next++) {
                if (first(next) >= 0) {
                    return next;
                }
            }
            return -1;
        }

        int steps() {
            int sum = 0;
            for (int crane = 0; crane < 4; crane++) {
                sum += last(crane) - first(crane);
            }
            return sum;
        }

        int rows() {
            int sum = 0;
            for (int crane : given) {
                sum += crane >= 0 ? 1 : 0;
            }
            return sum;
        }

        boolean mayBe() {
            for (int crane = 0; crane < 4; crane++) {
                int next = nextOf(crane);
                if (first(crane) >= 0 && next >= 0
                        && !(first(next) - first(crane) > model.gap && last(next) - last(crane) > model.gap)) {
                    return false;
                }
            }
            return true;
        }

        boolean endsBy(int latest) {
            for (int crane = 0; crane < 4; crane++) {
                if (first(crane) >= 0) {
                    comeTo(crane, first(crane), 0);
                }
            }
            int done = 0;
            for (int time = 0; done < rows(); time++) {
                if (time > latest) {
                    return false;
                }
                boolean moved = true;
                while (moved) {
                    moved = false;
                    for (int crane = 0; crane < 4; crane++) {
                        moved |= at[crane] >= 0 && change(crane, time);
                    }
                }
                done = 0;
                for (int bay = 0; bay < 8; bay++) {
                    done += given[bay] >= 0 && end[bay] >= 0 ? 1 : 0;
                    finish = Math.max(finish, end[bay]);
                }
            }
            return true;
        }

        private void comeTo(int crane, int bay, int time) {
            at[crane] = bay;
            arrives[crane] = -1;
            came[crane][bay] = time;
            begin[bay] = given[bay] == crane ? time : begin[bay];
        }

        private boolean change(int crane, int time) {
            int bay = at[crane];
            if (arrives[crane] >= 0) {
                if (arrives[crane] > time) {
                    return false;
                }
                comeTo(crane, bay + 1, time);
                return true;
            }
            if (given[bay] == crane && end[bay] < 0) {
                int needed = (model.hatch[bay] + model.work[bay]) * model.minutes[crane];
                if ((time - begin[bay]) * model.moves[crane] < needed) {
                    return false;
                }
                end[bay] = time;
                return true;
            }
            int next = nextOf(crane);
            if (bay == last(crane) || next >= 0 && at[next] < bay + 2 + model.gap) {
                return false;
            }
            arrives[crane] = time + model.step;
            return true;
        }
    }
}
