/** The calls of one object, each with the answer or the class of the exception that is due. */
abstract class Calls {
    static final Class<?> INDEX = IndexOutOfBoundsException.class;
    static final Class<?> ARGUMENT = IllegalArgumentException.class;
    static final Class<?> STATE = IllegalStateException.class;
    static final Class<?> ARITHMETIC = ArithmeticException.class;

    static final Check check = new Check();
    static CranePlan x;

    static void make(int cranes, int gap, int... works) {
        x = new CranePlan(cranes, gap);
        for (int work : works) {
            x.bay(0, work);
        }
    }

    static void dueBay(Object want, int hatch, int work) {
        check.due(want, "bay(" + hatch + ", " + work + ")", () -> x.bay(hatch, work));
    }

    static void dueRate(Object want, int crane, int moves, int minutes) {
        check.due(want, "rate(" + crane + ", " + moves + ", " + minutes + ")", () -> x.rate(crane, moves, minutes));
    }

    static void dueStep(Object want, int minutes) {
        check.due(want, "step(" + minutes + ")", () -> x.step(minutes));
    }

    static void duePlan(Object want) {
        check.due(want, "plan()", () -> x.plan());
    }

    static void dueWorks(Object want, int crane, int time) {
        check.due(want, "works(" + crane + ", " + time + ")", () -> x.works(crane, time));
    }

    static void dueWhere(Object want, int crane, int time) {
        check.due(want, "where(" + crane + ", " + time + ")", () -> x.where(crane, time));
    }

    static void dueFails(Object want, int crane, int time) {
        check.due(want, "fails(" + crane + ", " + time + ")", () -> x.fails(crane, time));
    }

    static void dueBound(Object want) {
        check.due(want, "bound()", () -> x.bound());
    }

    static void dueRow(Object want, int i, int what) {
        check.due(want, "row(" + i + ", " + what + ")", () -> x.row(i, what));
    }

    static void dueLook(Object want, int bay, int what) {
        check.due(want, "look(" + bay + ", " + what + ")", () -> x.look(bay, what));
    }

    static void dueCount(Object want, int what) {
        check.due(want, "count(" + what + ")", () -> x.count(what));
    }

    static void dueWholeRow(int i, int time, int crane, int bay, int end) {
        dueRow(time, i, 0);
        dueRow(crane, i, 1);
        dueRow(bay, i, 2);
        dueRow(end, i, 3);
    }

    static void dueCranes(int... cranes) {
        for (int bay = 0; bay < cranes.length; bay++) {
            dueLook(cranes[bay], bay, 2);
        }
    }

    static void dueLeft(int bay, int hatch, int work) {
        dueLook(hatch, bay, 0);
        dueLook(work, bay, 1);
    }
}
