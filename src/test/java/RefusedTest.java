import java.util.ArrayList;
import java.util.List;

/**
 * Answers of false and exceptions change nothing: in every kind of state one object takes all the
 * calls that are refused there and its twin none of them, and both answer alike from then on.
 */
public final class RefusedTest extends Calls {
    private static final int CRANES = 3;

    private enum State {
        NEW, PLAN_OF_NOTHING, BAYS, PLAN, VOID, ONE_OUT, ALL_OUT, FULL, FULL_WITH_PLAN;

        boolean hasPlan() {
            return this == PLAN_OF_NOTHING || this == PLAN || this == ONE_OUT || this == FULL_WITH_PLAN;
        }

        boolean isFull() {
            return this == FULL || this == FULL_WITH_PLAN;
        }
    }

    public static void main(String[] args) {
        for (State state : State.values()) {
            check.part("refused calls in state " + state);
            x = make(state);
            refuseBays(state);
            refuseRates();
            dueStep(false, -1);
            dueStep(false, 21);
            refuseFails(state);
            refuseAsking(state);
            CranePlan twin = make(state);
            compare(twin);
            goOn(x, state);
            goOn(twin, state);
            compare(twin);
        }
        check.end();
    }

    private static CranePlan make(State state) {
        CranePlan made = new CranePlan(CRANES, 1);
        if (state == State.PLAN_OF_NOTHING) {
            made.plan();
        }
        if (state == State.NEW || state == State.PLAN_OF_NOTHING) {
            return made;
        }
        addBays(made, state.isFull() ? 8 : 6);
        made.rate(1, 3, 2);
        made.rate(2, 2, 3);
        made.step(2);
        if (state != State.BAYS && state != State.FULL) {
            made.plan();
        }
        if (state == State.VOID) {
            made.step(3);
        }
        if (state == State.ONE_OUT || state == State.ALL_OUT) {
            made.fails(1, 4);
        }
        if (state == State.ALL_OUT) {
            made.fails(0, 3);
            made.fails(2, 2);
        }
        return made;
    }

    private static void addBays(CranePlan made, int bays) {
        for (int bay = 0; bay < bays; bay++) {
            made.bay(bay % 3, 3 + bay * 5 % 7);
        }
    }

    private static void refuseBays(State state) {
        dueBay(ARGUMENT, -1, 0);
        dueBay(ARGUMENT, 51, 0);
        dueBay(ARGUMENT, 0, -1);
        dueBay(ARGUMENT, 0, 201);
        if (state.isFull()) {
            dueBay(STATE, 50, 200);
            dueBay(STATE, 0, 0);
        }
    }

    private static void refuseRates() {
        dueRate(ARITHMETIC, 0, 0, 7);
        dueRate(ARITHMETIC, CRANES, 0, 0);
        dueRate(ARGUMENT, -1, 7, 7);
        dueRate(ARGUMENT, CRANES, 7, 7);
        for (int crane = 0; crane < CRANES; crane++) {
            dueRate(ARGUMENT, crane, -1, 7);
            dueRate(ARGUMENT, crane, 101, 7);
            dueRate(ARGUMENT, crane, 7, 0);
            dueRate(ARGUMENT, crane, 7, -1);
            dueRate(ARGUMENT, crane, 7, 101);
        }
    }

    private static void refuseFails(State state) {
        dueFails(INDEX, -1, 0);
        dueFails(INDEX, CRANES, 0);
        dueFails(ARGUMENT, 0, -1);
        if (state == State.ONE_OUT || state == State.ALL_OUT) {
            dueFails(ARGUMENT, 1, 2);
        } else if (!state.hasPlan()) {
            dueFails(STATE, 1, 2);
        }
    }

    private static void refuseAsking(State state) {
        dueWorks(INDEX, -1, 0);
        dueWorks(INDEX, CRANES, 0);
        dueWhere(INDEX, -1, 0);
        dueWhere(INDEX, CRANES, 0);
        dueWhere(INDEX, 0, -1);
        dueRow(state.hasPlan() ? INDEX : STATE, -1, 0);
        dueRow(state.hasPlan() ? INDEX : STATE, 8, 0);
        dueRow(state.hasPlan() ? INDEX : STATE, 0, -1);
        dueRow(state.hasPlan() ? INDEX : STATE, 0, 4);
        dueLook(INDEX, -1, 0);
        dueLook(INDEX, 8, 0);
        dueLook(INDEX, 0, -1);
        dueLook(INDEX, 0, 3);
        dueCount(-1, -1);
        dueCount(-1, 6);
        if (!state.hasPlan()) {
            dueWorks(STATE, 0, 0);
            dueWhere(STATE, 0, 0);
        }
    }

    // What is told last shows rates, the step and the bays that no call tells of directly.
    private static void goOn(CranePlan goesOn, State state) {
        if (!state.isFull()) {
            goesOn.bay(1, 9);
        }
        goesOn.plan();
        if (goesOn.count(2) == 1) {
            goesOn.fails(state == State.ONE_OUT ? 0 : 1, 5);
        }
    }

    private static void compare(CranePlan twin) {
        List<Object> due = answersOf(twin);
        List<Object> got = answersOf(x);
        check.due(due, "all answers of the object", () -> got);
    }

    private static List<Object> answersOf(CranePlan asked) {
        List<Object> answers = new ArrayList<>();
        for (int what = 0; what < 6; what++) {
            int of = what;
            answers.add(Check.answerOf(() -> asked.count(of)));
        }
        answers.add(Check.answerOf(() -> asked.bound()));
        for (int bay = 0; bay < 8; bay++) {
            for (int what = 0; what < 4; what++) {
                int at = bay;
                int of = what;
                answers.add(Check.answerOf(() -> asked.look(at, of)));
                answers.add(Check.answerOf(() -> asked.row(at, of)));
            }
        }
        for (int crane = 0; crane < CRANES; crane++) {
            for (int time = 0; time < 24; time += 3) {
                int of = crane;
                int at = time;
                answers.add(Check.answerOf(() -> asked.works(of, at)));
                answers.add(Check.answerOf(() -> asked.where(of, at)));
            }
        }
        return answers;
    }
}
