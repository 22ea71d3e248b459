import java.util.function.Supplier;

/** Promises 14 to 20 at their bounds: runs without steps and full of them, torn, over, or none. */
public final class RunBoundaryTest {
    private static final int[] FAR = {Integer.MIN_VALUE, -1000, 1000, Integer.MAX_VALUE};
    private static final int UP = Workbench.UPPER;
    private static final int LOW = Workbench.REFINING;
    private static final int FRESH = Workbench.FRESH;

    public static void main(String[] args) {
        startOfNothing();
        startAnew();
        startWhereNothingIsRight();
        startLeavesWhatIsShown();
        enabledOfLowerEvents();
        enabledWithinTheRange();
        enabledWithoutARun();
        enabledArgumentsFirst();
        enabledByTheGuard();
        enabledWithinTheSizes();
        enabledWithinTheUpperSizes();
        enabledWithWitnessBeyond();
        enabledWhereTornOrFull();
        enabledChangesNothing();
        fireOfLowerEvents();
        fireWithinTheRange();
        fireWithoutARun();
        fireWhatIsNotEnabled();
        fireWhenTorn();
        fireSixty();
        fireFromTheStateBefore();
        fireIntoWhatIsNotRight();
        backWithoutSteps();
        backOfOneStep();
        backOfAllSteps();
        backOfWhatTore();
        backIsNotUndoneByTheModel();
        valuesOfVariables();
        valuesWithoutARun();
        tornByTheRange();
        tornByTheUpperGuard();
        tornByNoNewEvent();
        tornWithoutARun();
        tornStays();
        rightByAllInvariants();
        rightWithoutARun();
        rightOfEveryState();
        rightOfEachMachineApart();
        fiveHundredAndTwelveCalls();
        Expect.close();
    }

    private static void unsupported(String what, Supplier<GluedMachines> maker,
            int event, int parameter) {
        Workbench.refused(what, UnsupportedOperationException.class, maker,
                m -> m.fire(event, parameter));
    }

    // Promise 14: "A run begins (anew), whether its first state is right or not."

    private static void startOfNothing() {
        GluedMachines m = new GluedMachines();
        Expect.fine("14: nothing is told", () -> m.start());
        Expect.same("14: its state", "0 0 0 0 0 0", Expect.values(m));
        Expect.badState("14: without steps", () -> m.back());
    }

    private static void startAnew() {
        GluedMachines m = Workbench.fullOfSteps();
        m.start();
        Expect.same("14: its first state", "1 1 0 1 0 2", Expect.values(m));
        Expect.badState("14: without steps", () -> m.back());
        Expect.same("14: steps from 1", 1, m.fire(FRESH, 0));
        GluedMachines torn = Workbench.torn();
        Expect.same("14: torn before", true, torn.torn());
        torn.start();
        Expect.same("14: whole", false, torn.torn());
        Expect.same("14: fires", 1, torn.fire(LOW, 0));
    }

    private static void startWhereNothingIsRight() {
        GluedMachines m = new GluedMachines();
        int e = m.event(1, 1, -1);
        m.invariant(0, Expect.write(m, 53, 1, 2));
        m.start();
        Expect.same("14: not right", false, m.right());
        Expect.same("14: enabled", true, m.enabled(e, 0));
        Expect.same("14: fires", 1, m.fire(e, 0));
    }

    private static void startLeavesWhatIsShown() {
        GluedMachines m = Workbench.made();
        String before = Expect.shown(m);
        m.start();
        m.fire(LOW, 0);
        m.back();
        Expect.same("14: what is shown stays", before, Expect.shown(m));
    }

    // Promise 15: "IllegalArgumentException: there is no such lower event, or the parameter is not
    // within its range; IllegalStateException: no run has begun, or it is over."

    private static void enabledOfLowerEvents() {
        Expect.same("15: the last event", true, Workbench.made().enabled(2, 0));
        Workbench.badArgument("15: an upper event", m -> m.enabled(UP, 0));
        Workbench.badArgument("15: event -1", m -> m.enabled(-1, 0));
        Workbench.badArgument("15: event 3 of 3", m -> m.enabled(3, 0));
        for (int far : FAR) {
            Workbench.badArgument("15: event " + far, m -> m.enabled(far, 0));
        }
    }

    private static void enabledWithinTheRange() {
        Expect.fine("15: parameter 0", () -> Workbench.made().enabled(LOW, 0));
        Expect.fine("15: parameter 2 of 3", () -> Workbench.made().enabled(LOW, 2));
        Workbench.badArgument("15: parameter 3 of 3", m -> m.enabled(LOW, 3));
        Workbench.badArgument("15: parameter 1 of 1", m -> m.enabled(FRESH, 1));
        Workbench.badArgument("15: parameter -1", m -> m.enabled(FRESH, -1));
        for (int far : FAR) {
            Workbench.badArgument("15: parameter " + far, m -> m.enabled(LOW, far));
        }
    }

    private static void enabledWithoutARun() {
        GluedMachines m = new GluedMachines();
        int e = m.event(1, 1, -1);
        Expect.badState("15: no run has begun", () -> m.enabled(e, 0));
        m.start();
        Expect.same("15: it has", true, m.enabled(e, 0));
        Workbench.refused("15: it is over", IllegalStateException.class,
                Workbench::over, x -> x.enabled(LOW, 0));
    }

    private static void enabledArgumentsFirst() {
        Workbench.refused("15: no event when over", IllegalArgumentException.class,
                Workbench::over, m -> m.enabled(3, 0));
        Workbench.refused("15: no parameter when over", IllegalArgumentException.class,
                Workbench::over, m -> m.enabled(LOW, 3));
    }

    // Promise 15: "Whether a lower event is enabled with a parameter in the state of the run (torn
    // or not), and what 3 speaks of is a state."

    private static void enabledByTheGuard() {
        GluedMachines m = new GluedMachines();
        m.variable(3, 4, 2);
        int e = m.event(1, 4, -1);
        m.guard(e, Expect.write(m, 54, 40, 23));
        m.start();
        Expect.same("15: less", true, m.enabled(e, 1));
        Expect.same("15: not less", false, m.enabled(e, 2));
    }

    private static void enabledWithinTheSizes() {
        for (int v = 3; v <= 5; v++) {
            for (int size = 1; size <= 4; size++) {
                GluedMachines m = new GluedMachines();
                m.variable(v, size, 0);
                int e = m.event(1, 1, -1);
                m.start();
                m.assign(e, v, Expect.write(m, size - 1));
                Expect.same("15: to the greatest of " + size, true, m.enabled(e, 0));
                m.assign(e, v, Expect.write(m, size));
                Expect.same("15: to the size " + size, false, m.enabled(e, 0));
                m.assign(e, v, Expect.write(m, 51, 0, 1));
                Expect.same("15: to -1", false, m.enabled(e, 0));
                m.assign(e, v, Expect.write(m, 0));
                Expect.same("15: to 0", true, m.enabled(e, 0));
            }
        }
    }

    private static void enabledWithinTheUpperSizes() {
        for (int v = 0; v <= 2; v++) {
            for (int size = 1; size <= 4; size++) {
                GluedMachines m = new GluedMachines();
                m.variable(v, size, 0);
                int up = m.event(0, 1, -1);
                int low = m.event(1, 1, up);
                int fresh = m.event(1, 1, -1);
                m.start();
                m.assign(up, v, Expect.write(m, size - 1));
                Expect.same("15: above to the greatest", true, m.enabled(low, 0));
                m.assign(up, v, Expect.write(m, size));
                Expect.same("15: above to the size", false, m.enabled(low, 0));
                Expect.same("15: a new one goes alone", true, m.enabled(fresh, 0));
                m.assign(up, v, Expect.write(m, 51, 0, 1));
                Expect.same("15: above to -1", false, m.enabled(low, 0));
            }
        }
    }

    private static void enabledWithWitnessBeyond() {
        GluedMachines m = new GluedMachines();
        m.variable(0, 4, 0);
        int up = m.event(0, 1, -1);
        int low = m.event(1, 1, up);
        m.assign(up, 0, Expect.write(m, 40));
        m.start();
        m.witness(low, Expect.write(m, 3));
        Expect.same("15: beyond the range, to a state", true, m.enabled(low, 0));
        m.witness(low, Expect.write(m, 4));
        Expect.same("15: beyond the range, to no state", false, m.enabled(low, 0));
        m.witness(low, Expect.write(m, 51, 0, 1));
        Expect.same("15: below the range, to no state", false, m.enabled(low, 0));
        m.assign(up, 0, Expect.write(m, 51, 0, 40));
        Expect.same("15: below the range, to a state", true, m.enabled(low, 0));
        m.guard(up, Expect.write(m, 53, 1, 2));
        Expect.same("15: not enabled above, to a state", true, m.enabled(low, 0));
    }

    private static void enabledWhereTornOrFull() {
        GluedMachines torn = Workbench.torn();
        Expect.same("15: torn", true, torn.enabled(LOW, 0));
        Expect.same("15: torn, and to no state", false, torn.enabled(LOW, 1));
        Expect.same("15: 60 steps", true, Workbench.fullOfSteps().enabled(FRESH, 0));
    }

    private static void enabledChangesNothing() {
        GluedMachines m = Workbench.made();
        m.enabled(LOW, 1);
        m.enabled(LOW, 2);
        m.enabled(FRESH, 0);
        Expect.same("15: the state stays", "2 1 0 2 0 2", Expect.values(m));
        Expect.same("15: the steps stay", 2, m.fire(FRESH, 0));
    }

    // Promise 16: "IllegalArgumentException and IllegalStateException as in enabled;
    // UnsupportedOperationException: that would be false, or the run is torn, or has 60 steps."

    private static void fireOfLowerEvents() {
        Expect.same("16: the last event", 2, Workbench.made().fire(2, 0));
        Workbench.badArgument("16: an upper event", m -> m.fire(UP, 0));
        Workbench.badArgument("16: event -1", m -> m.fire(-1, 0));
        Workbench.badArgument("16: event 3 of 3", m -> m.fire(3, 0));
        for (int far : FAR) {
            Workbench.badArgument("16: event " + far, m -> m.fire(far, 0));
        }
    }

    private static void fireWithinTheRange() {
        Expect.same("16: parameter 0", 2, Workbench.made().fire(LOW, 0));
        GluedMachines m = Workbench.made();
        m.start();
        Expect.same("16: parameter 2 of 3", 1, m.fire(LOW, 2));
        Workbench.badArgument("16: parameter 3 of 3", x -> x.fire(LOW, 3));
        Workbench.badArgument("16: parameter 1 of 1", x -> x.fire(FRESH, 1));
        Workbench.badArgument("16: parameter -1", x -> x.fire(LOW, -1));
        for (int far : FAR) {
            Workbench.badArgument("16: parameter " + far, x -> x.fire(LOW, far));
        }
    }

    private static void fireWithoutARun() {
        GluedMachines m = new GluedMachines();
        int e = m.event(1, 1, -1);
        Expect.badState("16: no run has begun", () -> m.fire(e, 0));
        m.start();
        Expect.same("16: it has", 1, m.fire(e, 0));
        Workbench.refused("16: it is over", IllegalStateException.class,
                Workbench::over, x -> x.fire(FRESH, 0));
        Workbench.refused("16: no event when over", IllegalArgumentException.class,
                Workbench::over, x -> x.fire(UP, 0));
        Workbench.refused("16: no parameter when torn", IllegalArgumentException.class,
                Workbench::torn, x -> x.fire(LOW, 3));
        Workbench.refused("16: no event when full", IllegalArgumentException.class,
                Workbench::fullOfSteps, x -> x.fire(12, 0));
    }

    private static void fireWhatIsNotEnabled() {
        unsupported("16: to no state", Workbench::made, LOW, 2);
        unsupported("16: the guard fails", RunBoundaryTest::guarded, FRESH, 0);
        Expect.same("16: and the run is whole", false, guarded().torn());
        Expect.same("16: the guard holds", 2, Workbench.made().fire(FRESH, 0));
        Expect.same("16: to a state", 2, Workbench.made().fire(LOW, 1));
    }

    private static GluedMachines guarded() {
        GluedMachines m = Workbench.made();
        m.fire(LOW, 1);
        m.guard(FRESH, Workbench.UPPER_TRUTH);
        return m;
    }

    private static void fireWhenTorn() {
        unsupported("16: torn, what is enabled", Workbench::torn, LOW, 0);
        unsupported("16: torn, a new event", Workbench::torn, FRESH, 0);
        unsupported("16: torn, what is not enabled", Workbench::torn, LOW, 1);
        GluedMachines m = Workbench.torn();
        m.back();
        Expect.same("16: whole again", 1, m.fire(FRESH, 0));
    }

    private static void fireSixty() {
        GluedMachines m = new GluedMachines();
        int e = m.event(1, 1, -1);
        m.start();
        for (int i = 1; i <= 60; i++) {
            Expect.same("16: step " + i, i, m.fire(e, 0));
        }
        Expect.unsupported("16: step 61", () -> m.fire(e, 0));
        Expect.same("16: one is taken back", 59, m.back());
        Expect.same("16: step 60 again", 60, m.fire(e, 0));
        Expect.unsupported("16: step 61 again", () -> m.fire(e, 0));
        unsupported("16: a new event when full", Workbench::fullOfSteps, FRESH, 0);
        unsupported("16: one that refines when full", Workbench::fullOfSteps, LOW, 1);
        unsupported("16: what is not enabled when full", Workbench::fullOfSteps, LOW, 2);
    }

    /** "each of its machine's variables with an assignment is what that is in the state before". */
    private static void fireFromTheStateBefore() {
        GluedMachines m = new GluedMachines();
        for (int v = 0; v <= 5; v++) {
            m.variable(v, 4, v % 4);
        }
        int up = m.event(0, 4, -1);
        int low = m.event(1, 1, up);
        for (int v = 0; v <= 5; v++) {
            m.assign(v < 3 ? up : low, v, Expect.write(m, v < 3 ? 20 + (v + 1) % 3 : 17 + v));
        }
        m.start();
        m.fire(low, 0);
        Expect.same("16: upper values turned, lower ones copied", "1 2 0 0 1 2", Expect.values(m));
        m.assign(up, 0, Expect.write(m, 40));
        m.witness(low, Expect.write(m, 25));
        m.assign(low, 5, Expect.write(m, 3));
        m.fire(low, 0);
        Expect.same("16: the witness of the state before", 2, m.value(0));
        Expect.same("16: the value after it", 3, m.value(5));
    }

    private static void fireIntoWhatIsNotRight() {
        GluedMachines m = new GluedMachines();
        m.variable(3, 2, 0);
        m.invariant(1, Expect.write(m, 53, 23, 0));
        int e = m.event(1, 1, -1);
        m.assign(e, 3, Expect.write(m, 1));
        m.start();
        Expect.same("16: a state, though not right", 1, m.fire(e, 0));
        Expect.same("16: it is not", false, m.right());
        Expect.same("16: not torn by that", false, m.torn());
    }

    // Promise 17: "The latest step is taken back (a run that was torn by it is whole again): how
    // many steps are left. IllegalStateException: there is none."

    private static void backWithoutSteps() {
        GluedMachines m = new GluedMachines();
        Expect.badState("17: no run", () -> m.back());
        m.start();
        Expect.badState("17: no step", () -> m.back());
        Workbench.refused("17: over", IllegalStateException.class, Workbench::over,
                GluedMachines::back);
        Workbench.refused("17: begun anew", IllegalStateException.class,
                RunBoundaryTest::begunAnew, GluedMachines::back);
    }

    private static GluedMachines begunAnew() {
        GluedMachines m = Workbench.made();
        m.start();
        return m;
    }

    private static void backOfOneStep() {
        GluedMachines m = Workbench.made();
        Expect.same("17: none is left", 0, m.back());
        Expect.same("17: the first state", "1 1 0 1 0 2", Expect.values(m));
        Expect.badState("17: no step", () -> m.back());
        Expect.same("17: the run goes on", "1 1 0 1 0 2", Expect.values(m));
        Expect.same("17: it fires", 1, m.fire(LOW, 1));
    }

    private static void backOfAllSteps() {
        GluedMachines m = new GluedMachines();
        for (int v = 3; v <= 5; v++) {
            m.variable(v, 4, 0);
        }
        int e = m.event(1, 4, -1);
        m.assign(e, 3, Expect.write(m, 40));
        m.assign(e, 4, Expect.write(m, 23));
        m.assign(e, 5, Expect.write(m, 24));
        m.start();
        for (int i = 1; i <= 60; i++) {
            m.fire(e, valueAfter(i));
        }
        for (int left = 59; left >= 0; left--) {
            Expect.same("17: left", left, m.back());
            String due = "0 0 0 " + valueAfter(left) + " " + valueAfter(left - 1) + " "
                    + valueAfter(left - 2);
            Expect.same("17: state after " + left, due, Expect.values(m));
        }
        Expect.badState("17: none", () -> m.back());
    }

    private static int valueAfter(int steps) {
        return steps <= 0 ? 0 : steps * 7 / 3 % 4;
    }

    private static void backOfWhatTore() {
        GluedMachines m = Workbench.torn();
        Expect.same("17: none is left", 0, m.back());
        Expect.same("17: whole again", false, m.torn());
        Expect.same("17: the first state", "1 1 0 1 0 2", Expect.values(m));
        Expect.same("17: torn anew", 1, m.fire(LOW, 2));
        Expect.same("17: torn", true, m.torn());
    }

    /** What has been told since does not matter to the steps that were done before. */
    private static void backIsNotUndoneByTheModel() {
        GluedMachines m = Workbench.made();
        m.guard(LOW, Workbench.UPPER_TRUTH);
        m.assign(LOW, 3, Workbench.LOWER_NUMBER);
        m.assign(UP, 0, Workbench.PARAMETER);
        m.invariant(0, Workbench.ALWAYS);
        Expect.same("17: none is left", 0, m.back());
        Expect.same("17: the first state", "1 1 0 1 0 2", Expect.values(m));
    }

    // Promise 18: "The value of a variable in the run; 0 when there is none (no run).
    // IllegalArgumentException: there is none."

    private static void valuesOfVariables() {
        Expect.same("18: variable 0", 2, Workbench.made().value(0));
        Expect.same("18: variable 5", 2, Workbench.made().value(5));
        Workbench.badArgument("18: variable -1", m -> m.value(-1));
        Workbench.badArgument("18: variable 6", m -> m.value(6));
        for (int far : FAR) {
            Workbench.badArgument("18: variable " + far, m -> m.value(far));
        }
        Workbench.refused("18: variable 6 when over", IllegalArgumentException.class,
                Workbench::over, m -> m.value(6));
        Expect.badArgument("18: variable -1 of no run", () -> new GluedMachines().value(-1));
    }

    private static void valuesWithoutARun() {
        GluedMachines m = new GluedMachines();
        for (int v = 0; v <= 5; v++) {
            m.variable(v, 4, 3);
        }
        Expect.same("18: no run has begun", "0 0 0 0 0 0", Expect.values(m));
        m.start();
        Expect.same("18: it has", "3 3 3 3 3 3", Expect.values(m));
        m.variable(0, 4, 3);
        Expect.same("18: it is over", "0 0 0 0 0 0", Expect.values(m));
    }

    // Terms: "if its upper event is not enabled with the witness, or that is beyond its range, the
    // run is TORN." Promise 19: "Whether the run is torn."

    private static void tornByTheRange() {
        for (int range = 1; range <= 4; range++) {
            Expect.same("19: 0", "1 false", fired(range, 0));
            Expect.same("19: the last of range " + range, "1 false", fired(range, range - 1));
            Expect.same("19: the range " + range, "1 true", fired(range, range));
            Expect.same("19: far beyond", "1 true", fired(range, 1, 52, 52, 9, 9, 52, 9, 9));
            Expect.same("19: -1", "1 true", fired(range, 1, 51, 0, 1));
            Expect.same("19: far below", "1 true",
                    fired(range, 1, 51, 0, 52, 52, 9, 9, 52, 9, 9));
        }
    }

    private static String fired(int range, int number) {
        return fired(range, 1, number);
    }

    /** Steps, and whether the run is torn, of a first step with the words as witness. */
    private static String fired(int upperRange, int lowerRange, int... witness) {
        GluedMachines m = new GluedMachines();
        int up = m.event(0, upperRange, -1);
        int low = m.event(1, lowerRange, up);
        m.witness(low, Expect.write(m, witness));
        m.start();
        return m.fire(low, 0) + " " + m.torn();
    }

    private static void tornByTheUpperGuard() {
        GluedMachines m = new GluedMachines();
        m.variable(0, 4, 1);
        int up = m.event(0, 4, -1);
        int low = m.event(1, 4, up);
        m.guard(up, Expect.write(m, 54, 40, 20));
        m.assign(up, 0, Expect.write(m, 50, 20, 1));
        m.witness(low, Expect.write(m, 40));
        m.start();
        m.fire(low, 0);
        Expect.same("19: the upper guard holds", "2 false", m.value(0) + " " + m.torn());
        m.fire(low, 2);
        Expect.same("19: in the state before it does not", "3 true", m.value(0) + " " + m.torn());
    }

    private static void tornByNoNewEvent() {
        GluedMachines m = new GluedMachines();
        int up = m.event(0, 1, -1);
        int fresh = m.event(1, 4, -1);
        m.guard(up, Expect.write(m, 53, 1, 2));
        m.start();
        m.fire(fresh, 3);
        Expect.same("19: a new event", false, m.torn());
    }

    private static void tornWithoutARun() {
        GluedMachines m = new GluedMachines();
        Expect.same("19: no run has begun", false, m.torn());
        m.start();
        Expect.same("19: no step", false, m.torn());
        GluedMachines torn = Workbench.torn();
        torn.variable(5, 1, 0);
        Expect.same("19: over", false, torn.torn());
        torn.start();
        Expect.same("19: begun anew", false, torn.torn());
    }

    private static void tornStays() {
        GluedMachines m = Workbench.torn();
        m.witness(LOW, Workbench.PARAMETER);
        m.guard(UP, Workbench.ALWAYS);
        m.open();
        Expect.same("19: whatever is told of the model", true, m.torn());
        Expect.unsupported("19: a refused step", () -> m.fire(FRESH, 0));
        Expect.same("19: torn still", true, m.torn());
    }

    // Promise 20: "Whether the state of the run is right; when there is none, that of initial
    // values."

    private static void rightByAllInvariants() {
        for (int failing = 0; failing < 12; failing++) {
            GluedMachines m = new GluedMachines();
            int always = Expect.write(m, 53, 1, 1);
            int never = Expect.write(m, 53, 1, 2);
            m.start();
            for (int i = 0; i < 12; i++) {
                Expect.same("20: right with " + i, i <= failing, m.right());
                m.invariant(i / 6, i == failing ? never : always);
            }
            Expect.same("20: one of 12 fails", false, m.right());
            m.variable(0, 1, 0);
            Expect.same("20: of initial values too", false, m.right());
        }
    }

    private static void rightWithoutARun() {
        GluedMachines m = new GluedMachines();
        m.variable(3, 2, 1);
        m.invariant(1, Expect.write(m, 53, 23, 1));
        int e = m.event(1, 1, -1);
        m.assign(e, 3, Expect.write(m, 0));
        Expect.same("20: no run has begun", true, m.right());
        m.start();
        m.fire(e, 0);
        Expect.same("20: the state of the run", false, m.right());
        m.variable(4, 1, 0);
        Expect.same("20: it is over", true, m.right());
        m.variable(3, 2, 0);
        Expect.same("20: other initial values", false, m.right());
        m.variable(3, 2, 1);
        m.start();
        m.fire(e, 0);
        m.back();
        Expect.same("20: taken back", true, m.right());
    }

    /** Each value of each variable is told from the others. */
    private static void rightOfEveryState() {
        for (int v = 0; v <= 5; v++) {
            for (int value = 0; value <= 3; value++) {
                GluedMachines m = new GluedMachines();
                m.invariant(v < 3 ? 0 : 1, Expect.write(m, 53, 20 + v, value));
                for (int other = 0; other <= 3; other++) {
                    m.variable(v, 4, other);
                    Expect.same("20: variable " + v + " is " + other, other == value, m.right());
                }
            }
        }
    }

    /** What was found of an upper part is not taken for what was found of a lower one. */
    private static void rightOfEachMachineApart() {
        for (int others = 0; others <= 3; others++) {
            GluedMachines m = new GluedMachines();
            for (int v = 0; v <= 5; v++) {
                m.variable(v, 4, others);
            }
            m.invariant(0, Expect.write(m, 57, 53, 22, 1));
            m.invariant(1, Expect.write(m, 57, 53, 25, 2));
            for (int i = 0; i < 32; i++) {
                int above = i / 4 % 4;
                int below = i % 4;
                m.variable(2, 4, above);
                m.variable(5, 4, below);
                Expect.same("20: " + above + " above, " + below + " below",
                        above != 1 && below != 2, m.right());
            }
        }
    }

    /** "An object is used for at most 512 calls": the last of these answers like the first. */
    private static void fiveHundredAndTwelveCalls() {
        GluedMachines m = new GluedMachines();
        m.variable(3, 4, 0);
        m.event(1, 4, -1);
        m.word(40);
        m.formula();
        m.assign(0, 3, 0);
        m.start();
        int calls = 6;
        for (int i = 1; calls < 64; i++) {
            m.fire(0, i % 4);
            calls++;
        }
        for (; calls < 510; calls += 2) {
            Expect.same("512: step 59", 59, m.fire(0, 3));
            Expect.same("512: 58 are left", 58, m.back());
        }
        Expect.same("512: call 511", 59, m.fire(0, 3));
        Expect.same("512: call 512", 3, m.value(3));
    }
}
