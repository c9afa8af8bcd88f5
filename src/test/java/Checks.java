/** Counts the answers that are not as due. */
final class Checks {
    /** A call that may throw. */
    interface Call {
        Object run();
    }

    /** A call without an answer. */
    interface Act {
        void run();
    }

    private int wrong = 0;
    private int seen = 0;

    void due(String what, Object got, Object want) {
        seen++;
        if (!String.valueOf(got).equals(String.valueOf(want))) {
            wrong++;
            System.out.println(what + ": answered " + got + ", due is " + want);
        }
    }

    void due(String what, Call call, Object want) {
        due(what, outcome(call), want);
    }

    void throwsIt(String what, Class<? extends RuntimeException> want, Act act) {
        due(what, outcome(() -> {
            act.run();
            return "nothing thrown";
        }), "throws." + want.getSimpleName());
    }

    int seen() {
        return seen;
    }

    void finish(String name) {
        System.out.println(name + ": " + seen + " checks, " + wrong + " wrong");
        if (wrong != 0) {
            System.exit(1);
        }
    }

    static String outcome(Call call) {
        try {
            return String.valueOf(call.run());
        } catch (RuntimeException e) {
            return "throws." + e.getClass().getSimpleName();
        }
    }
}
