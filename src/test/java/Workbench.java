import java.util.function.Consumer;
import java.util.function.Supplier;

/**
 * A model of which nothing is as in a new object, and a look at all that can be asked of it: a
 * refused call must leave all of that as it was.
 */
final class Workbench {
    static final int ALWAYS = 0;
    static final int PARAMETER = 1;
    static final int UPPER_SUM = 2;
    static final int LOWER_SUM = 3;
    static final int UPPER_TRUTH = 4;
    static final int LOWER_TRUTH = 5;
    static final int LOWER_NUMBER = 6;
    static final int PARAMETER_TRUTH = 7;
    static final int FORMULAS = 8;

    static final int UPPER = 0;
    static final int REFINING = 1;
    static final int FRESH = 2;
    static final int EVENTS = 3;

    private Workbench() {
    }

    /** A run of one step, something shown, and two words written. */
    static GluedMachines made() {
        GluedMachines m = told();
        m.done(4, REFINING);
        m.start();
        m.fire(REFINING, 1);
        m.word(50);
        m.word(1);
        return m;
    }

    private static GluedMachines told() {
        GluedMachines m = new GluedMachines();
        m.variable(0, 4, 1);
        m.variable(1, 2, 1);
        m.variable(3, 4, 1);
        m.variable(5, 3, 2);
        Expect.write(m, 53, 1, 1);
        Expect.write(m, 40);
        Expect.write(m, 50, 20, 40);
        Expect.write(m, 50, 23, 40);
        Expect.write(m, 54, 20, 3);
        Expect.write(m, 53, 20, 23);
        Expect.write(m, 51, 3, 23);
        Expect.write(m, 53, 40, 40);
        m.event(0, 2, -1);
        m.event(1, 3, UPPER);
        m.event(1, 1, -1);
        m.guard(UPPER, UPPER_TRUTH);
        m.guard(REFINING, PARAMETER_TRUTH);
        m.assign(UPPER, 0, UPPER_SUM);
        m.assign(REFINING, 3, LOWER_SUM);
        m.witness(REFINING, PARAMETER);
        m.invariant(0, ALWAYS);
        m.invariant(1, LOWER_TRUTH);
        m.variant(LOWER_NUMBER);
        return m;
    }

    /** Such a model with 30 formulas. */
    static GluedMachines fullOfFormulas() {
        GluedMachines m = told();
        for (int i = FORMULAS; i < 30; i++) {
            Expect.write(m, i % 10);
        }
        m.word(50);
        m.word(1);
        return m;
    }

    static GluedMachines fullOfWords() {
        GluedMachines m = made();
        for (int i = 2; i < 24; i++) {
            m.word(i % 10);
        }
        return m;
    }

    static GluedMachines fullOfEvents() {
        GluedMachines m = made();
        for (int i = EVENTS; i < 12; i++) {
            m.event(0, 1, -1);
        }
        return m;
    }

    static GluedMachines fullOfInvariants() {
        GluedMachines m = made();
        for (int i = 1; i < 6; i++) {
            m.invariant(0, ALWAYS);
            m.invariant(1, ALWAYS);
        }
        return m;
    }

    static GluedMachines fullOfSteps() {
        GluedMachines m = made();
        for (int i = 1; i < 60; i++) {
            m.fire(FRESH, 0);
        }
        return m;
    }

    static GluedMachines torn() {
        GluedMachines m = told();
        m.start();
        m.fire(REFINING, 2);
        return m;
    }

    static GluedMachines over() {
        GluedMachines m = made();
        m.variable(2, 1, 0);
        return m;
    }

    static void badArgument(String what, Consumer<GluedMachines> call) {
        refused(what, IllegalArgumentException.class, Workbench::made, call);
    }

    /** The call is refused as is due, and all is as in a model of which it was not asked. */
    static void refused(String what, Class<? extends RuntimeException> due,
            Supplier<GluedMachines> maker, Consumer<GluedMachines> call) {
        GluedMachines asked = maker.get();
        Expect.refused(what, due, () -> call.accept(asked));
        Expect.same("all after " + what, all(maker.get()), all(asked));
    }

    /** All that can be asked, in few enough calls; to ask it changes the object. */
    private static String all(GluedMachines m) {
        StringBuilder text = new StringBuilder();
        text.append("shown ").append(Expect.shown(m)).append("; ");
        text.append(m.torn()).append(' ').append(m.right()).append(' ');
        for (int event = 0; event < EVENTS; event++) {
            for (int parameter = 0; parameter < 4; parameter++) {
                int e = event;
                int p = parameter;
                text.append(answer(() -> m.enabled(e, p))).append(' ');
            }
        }
        addRun(text, m);
        addDuties(text, m);
        addCounts(text, m);
        return text.toString();
    }

    private static void addRun(StringBuilder text, GluedMachines m) {
        text.append("; run ").append(Expect.values(m));
        String steps = answer(m::back);
        while (!steps.startsWith("throws")) {
            text.append(", ").append(steps).append(": ").append(m.value(0)).append(m.value(3));
            steps = answer(m::back);
        }
        m.start();
        text.append("; begins ").append(Expect.values(m));
    }

    private static void addDuties(StringBuilder text, GluedMachines m) {
        text.append("; open ").append(m.open());
        for (int kind = 0; kind <= 6; kind++) {
            for (int event = 0; event < EVENTS; event++) {
                int k = kind;
                int e = event;
                String whole = answer(() -> m.done(k, e));
                text.append(' ').append(whole);
                if (whole.equals("false")) {
                    text.append(' ').append(Expect.shown(m));
                }
            }
        }
    }

    /** How much is written, and how many of all there are. */
    private static void addCounts(StringBuilder text, GluedMachines m) {
        text.append("; counts ").append(answer(() -> m.word(2)));
        text.append(' ').append(answer(m::formula));
        text.append(' ').append(answer(() -> m.word(2)));
        text.append(' ').append(answer(m::formula));
        text.append(' ').append(answer(() -> m.event(0, 1, -1)));
        text.append(' ').append(answer(() -> m.invariant(0, ALWAYS)));
        text.append(' ').append(answer(() -> m.invariant(1, ALWAYS)));
    }

    private static String answer(Supplier<Object> call) {
        try {
            return String.valueOf(call.get());
        } catch (RuntimeException e) {
            return "throws " + e.getClass().getSimpleName();
        }
    }
}
