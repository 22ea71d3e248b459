import java.util.Objects;

/** What the tests share: answers and exceptions that are due, and the writing of formulas. */
final class Expect {
    /** A call that may throw. */
    interface Call {
        void make();
    }

    private static int wrong = 0;
    private static int seen = 0;

    private Expect() {
    }

    static void same(String what, Object due, Object got) {
        seen++;
        if (!Objects.equals(due, got)) {
            wrong++;
            System.out.println(what + " answered " + got + ", due is " + due);
        }
    }

    static void refused(String what, Class<? extends RuntimeException> due, Call call) {
        same(what, "throws " + due.getSimpleName(), outcome(call));
    }

    static void badArgument(String what, Call call) {
        refused(what, IllegalArgumentException.class, call);
    }

    static void badState(String what, Call call) {
        refused(what, IllegalStateException.class, call);
    }

    static void unsupported(String what, Call call) {
        refused(what, UnsupportedOperationException.class, call);
    }

    static void fine(String what, Call call) {
        same(what, "throws nothing", outcome(call));
    }

    private static String outcome(Call call) {
        try {
            call.make();
            return "throws nothing";
        } catch (RuntimeException e) {
            return "throws " + e.getClass().getSimpleName();
        }
    }

    static int write(GluedMachines m, int... words) {
        for (int w : words) {
            m.word(w);
        }
        return m.formula();
    }

    /** What is shown, the values of the variables and then the parameter. */
    static String shown(GluedMachines m) {
        StringBuilder text = new StringBuilder();
        for (int what = 0; what <= 6; what++) {
            text.append(what == 0 ? "" : " ").append(m.broken(what));
        }
        return text.toString();
    }

    static String values(GluedMachines m) {
        StringBuilder text = new StringBuilder();
        for (int v = 0; v <= 5; v++) {
            text.append(v == 0 ? "" : " ").append(m.value(v));
        }
        return text.toString();
    }

    static void close() {
        System.out.println(seen + " answers looked at, " + wrong + " not as due");
        if (wrong != 0) {
            System.exit(1);
        }
    }
}
