import java.util.concurrent.Callable;

/** Compares what a call answers, or the class of what it throws, with what is due. */
final class Check {
    private int wrong = 0;
    private int asked = 0;
    private String part = "";

    void part(String name) {
        part = name;
    }

    void due(Object want, String text, Callable<Object> call) {
        asked++;
        Object got = answerOf(call);
        if (!want.equals(got)) {
            wrong++;
            System.out.println(part + ": " + text + " answered " + got + ", due is " + want);
        }
    }

    static Object answerOf(Callable<Object> call) {
        try {
            return call.call();
        } catch (Exception e) {
            return e.getClass();
        }
    }

    boolean hasWrong() {
        return wrong != 0;
    }

    void end() {
        System.out.println(wrong == 0
                ? "all " + asked + " answers are as due"
                : wrong + " of " + asked + " answers are not as due");
        if (wrong != 0) {
            System.exit(1);
        }
    }
}
