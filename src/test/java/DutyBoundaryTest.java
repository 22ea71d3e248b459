import java.util.Arrays;

/** Promises 11 to 13 and the section Terms on duties, at their bounds. */
public final class DutyBoundaryTest {
    private static final int[] FAR = {Integer.MIN_VALUE, -1000, 1000, Integer.MAX_VALUE};
    private static final String NOTHING = "-1 -1 -1 -1 -1 -1 -1";
    private static final String ZEROS = "0 0 0 0 0 0 0";

    public static void main(String[] args) {
        kindsAreZeroToSix();
        eventsOfKindsWithoutEvents();
        eventsOfOtherKinds();
        eventsBesideTheLast();
        refusedDoneLeavesWhatIsShown();
        brokenIsZeroToSix();
        nothingIsShown();
        shownStaysUntilDone();
        beginningAtTheBounds();
        noStateIsRight();
        rangeAtTheBounds();
        rangeOfOwnVariablesAlone();
        rangeInRightStatesAlone();
        upperKeepingOfAState();
        upperKeepingIgnoresLowerInvariants();
        lowerKeepingOfAState();
        lowerKeepingOfAnUpperState();
        lowerKeepingWithWitnessBeyond();
        newLeavesTheUpperPart();
        strongerAtTheBoundsOfTheRange();
        strongerNeedsTheUpperGuard();
        witnessBeforeTheStep();
        variantNotBelowZero();
        variantIsLess();
        variantOfNoState();
        movingOfOneEvent();
        movingByTheGuardAlone();
        movingOfLowerEventsAlone();
        firstByEachPlace();
        lastOfAll();
        upperDutiesShowNoLowerValues();
        whatAnInvariantAloneReads();
        whatAGuardAloneReads();
        whatAnUpperEventAloneReads();
        whatAVariantAloneReads();
        parameterOfBeginningAndMoving();
        openOfNothing();
        openOfAll();
        openWithoutMoving();
        openLeavesWhatIsShown();
        Expect.close();
    }

    private static void broken(String what, GluedMachines m, int kind, int event, String due) {
        Expect.same(what, false, m.done(kind, event));
        Expect.same(what + ", shown", due, Expect.shown(m));
    }

    private static void whole(String what, GluedMachines m, int kind, int event) {
        Expect.same(what, true, m.done(kind, event));
        Expect.same(what + ", shown", NOTHING, Expect.shown(m));
    }

    // Promise 11: "IllegalArgumentException: there is no such kind (0 .. 6), or no event that has
    // such a duty (for 0 and 6, the event is not 0)."

    private static void kindsAreZeroToSix() {
        Expect.fine("11: kind 0", () -> Workbench.made().done(0, 0));
        Expect.fine("11: kind 6", () -> Workbench.made().done(6, 0));
        for (int event = 0; event < Workbench.EVENTS; event++) {
            int e = event;
            Workbench.badArgument("11: kind -1 of " + e, m -> m.done(-1, e));
            Workbench.badArgument("11: kind 7 of " + e, m -> m.done(7, e));
            // These would be kinds if a bit were looked for modulo 32.
            Workbench.badArgument("11: kind 33 of " + e, m -> m.done(33, e));
            Workbench.badArgument("11: kind -29 of " + e, m -> m.done(-29, e));
            for (int far : FAR) {
                Workbench.badArgument("11: kind " + far, m -> m.done(far, e));
            }
        }
    }

    private static void eventsOfKindsWithoutEvents() {
        int[] kinds = {0, 6};
        for (int kind : kinds) {
            Expect.fine("11: no events at all", () -> new GluedMachines().done(kind, 0));
            Workbench.badArgument("11: event -1 of " + kind, m -> m.done(kind, -1));
            Workbench.badArgument("11: event 1 of " + kind, m -> m.done(kind, 1));
            for (int far : FAR) {
                Workbench.badArgument("11: event " + far, m -> m.done(kind, far));
            }
        }
    }

    private static void eventsOfOtherKinds() {
        String[] kinds = {"12", "134", "135"};
        for (int event = 0; event < Workbench.EVENTS; event++) {
            for (int kind = 1; kind <= 5; kind++) {
                int e = event;
                int k = kind;
                if (kinds[event].indexOf('0' + kind) >= 0) {
                    Expect.fine("11: " + k + " of " + e, () -> Workbench.made().done(k, e));
                } else {
                    Workbench.badArgument("11: " + k + " of " + e, m -> m.done(k, e));
                }
            }
        }
    }

    private static void eventsBesideTheLast() {
        for (int kind = 1; kind <= 5; kind++) {
            int k = kind;
            Workbench.badArgument("11: event -1 of " + k, m -> m.done(k, -1));
            Workbench.badArgument("11: event 3 of 3", m -> m.done(k, 3));
            Expect.badArgument("11: event 0 of none", () -> new GluedMachines().done(k, 0));
            for (int far : FAR) {
                Workbench.badArgument("11: event " + far, m -> m.done(k, far));
            }
        }
        Expect.fine("11: the twelfth event", () -> Workbench.fullOfEvents().done(2, 11));
    }

    private static void refusedDoneLeavesWhatIsShown() {
        GluedMachines m = new GluedMachines();
        broken("11: moving", m, 6, 0, ZEROS);
        Expect.badArgument("11: refused", () -> m.done(6, 1));
        Expect.same("11: shown as before", ZEROS, Expect.shown(m));
        whole("11: beginning", m, 0, 0);
        Expect.badArgument("11: refused", () -> m.done(1, 0));
        Expect.same("11: nothing as before", NOTHING, Expect.shown(m));
    }

    // Promise 12: "What is shown: the value of a variable, or (6) of the parameter; -1 when nothing
    // is. IllegalArgumentException: it is not 0 .. 6."

    private static void brokenIsZeroToSix() {
        Expect.fine("12: variable 0", () -> Workbench.made().broken(0));
        Expect.fine("12: the parameter", () -> Workbench.made().broken(6));
        Workbench.badArgument("12: -1", m -> m.broken(-1));
        Workbench.badArgument("12: 7", m -> m.broken(7));
        for (int far : FAR) {
            Workbench.badArgument("12: " + far, m -> m.broken(far));
        }
        GluedMachines m = new GluedMachines();
        Expect.badArgument("12: -1 when nothing is", () -> m.broken(-1));
        Expect.badArgument("12: 7 when nothing is", () -> m.broken(7));
    }

    private static void nothingIsShown() {
        GluedMachines m = new GluedMachines();
        Expect.same("12: before all", NOTHING, Expect.shown(m));
        broken("12: broken", m, 6, 0, ZEROS);
        m.event(1, 1, -1);
        Expect.same("12: told, but not asked", ZEROS, Expect.shown(m));
        whole("12: done", m, 6, 0);
    }

    /** "what breaks it is shown from now on": what is shown is what was found then. */
    private static void shownStaysUntilDone() {
        GluedMachines m = Workbench.made();
        Expect.same("11: broken", false, m.done(4, Workbench.REFINING));
        String before = Expect.shown(m);
        m.start();
        m.fire(Workbench.REFINING, 1);
        m.back();
        m.guard(Workbench.UPPER, Workbench.ALWAYS);
        m.witness(Workbench.REFINING, Workbench.LOWER_NUMBER);
        m.variable(0, 2, 0);
        m.open();
        m.right();
        Expect.same("11: shown from now on", before, Expect.shown(m));
    }

    // Terms: "0 BEGINNING: the state of initial values is right."

    private static void beginningAtTheBounds() {
        GluedMachines m = new GluedMachines();
        m.variable(2, 4, 3);
        m.variable(5, 4, 3);
        m.invariant(0, Expect.write(m, 54, 22, 4));
        m.invariant(1, Expect.write(m, 53, 22, 25));
        whole("0: both hold", m, 0, 0);
        m.variable(5, 4, 2);
        broken("0: the lower one does not", m, 0, 0, "0 0 3 0 0 2 0");
        m.variable(5, 4, 3);
        m.invariant(0, Expect.write(m, 54, 22, 3));
        broken("0: an upper one does not", m, 0, 0, "0 0 3 0 0 3 0");
        m.start();
        Expect.same("14: a run begins in it", 3, m.value(2));
    }

    /** Where no state is right there is nothing to break the other duties. */
    private static void noStateIsRight() {
        GluedMachines m = new GluedMachines();
        int up = m.event(0, 1, -1);
        int low = m.event(1, 1, up);
        int fresh = m.event(1, 1, -1);
        int nine = Expect.write(m, 9);
        m.assign(up, 0, nine);
        m.assign(low, 3, nine);
        m.assign(fresh, 3, nine);
        m.witness(low, nine);
        m.variant(Expect.write(m, 51, 0, 1));
        int never = Expect.write(m, 53, 1, 2);
        Expect.same("broken all about", 5, m.open());
        m.invariant(1, never);
        broken("1: above it is right", m, 1, up, ZEROS);
        whole("1: no right state", m, 1, low);
        whole("4: no right state", m, 4, low);
        whole("5: no right state", m, 5, fresh);
        whole("6: no right state", m, 6, 0);
        m.invariant(0, never);
        whole("1: none above", m, 1, up);
        whole("2: none above", m, 2, up);
        broken("0: the beginning alone", m, 0, 0, ZEROS);
        Expect.same("13: the beginning alone", 1, m.open());
    }

    // Terms: "1 RANGE of an event: in each state that is right (above, for an upper event), with
    // each parameter with which it is enabled, all values it leads to are within the sizes."

    private static void rangeAtTheBounds() {
        for (int v = 0; v <= 5; v++) {
            for (int size = 1; size <= 4; size++) {
                GluedMachines m = new GluedMachines();
                m.variable(v, size, 0);
                int e = m.event(v < 3 ? 0 : 1, 1, -1);
                String what = "1: variable " + v + " of size " + size + " to ";
                m.assign(e, v, Expect.write(m, size - 1));
                whole(what + "its greatest", m, 1, e);
                m.assign(e, v, Expect.write(m, size));
                broken(what + "its size", m, 1, e, ZEROS);
                m.assign(e, v, Expect.write(m, 0));
                whole(what + "0", m, 1, e);
                m.assign(e, v, Expect.write(m, 51, 0, 1));
                broken(what + "-1", m, 1, e, ZEROS);
            }
        }
    }

    private static void rangeOfOwnVariablesAlone() {
        GluedMachines m = new GluedMachines();
        int up = m.event(0, 1, -1);
        int low = m.event(1, 1, up);
        m.assign(up, 0, Expect.write(m, 1));
        broken("1: the upper event", m, 1, up, ZEROS);
        whole("1: the event that refines it", m, 1, low);
        m.assign(up, 0, Expect.write(m, 0));
        m.assign(low, 5, Expect.write(m, 1));
        whole("1: the upper event", m, 1, up);
        broken("1: the event that refines it", m, 1, low, ZEROS);
    }

    private static void rangeInRightStatesAlone() {
        GluedMachines m = new GluedMachines();
        m.variable(0, 4, 0);
        m.variable(3, 4, 0);
        int up = m.event(0, 1, -1);
        int low = m.event(1, 1, -1);
        m.assign(up, 0, Expect.write(m, 50, 20, 1));
        m.assign(low, 3, Expect.write(m, 50, 23, 1));
        broken("1: up to the last", m, 1, up, "3 0 0 0 0 0 0");
        m.invariant(1, Expect.write(m, 54, 20, 3));
        broken("1: lower invariants do not count above", m, 1, up, "3 0 0 0 0 0 0");
        m.invariant(0, Expect.write(m, 54, 20, 3));
        whole("1: the last is not right above", m, 1, up);
        broken("1: below", m, 1, low, "0 0 0 3 0 0 0");
        m.guard(low, Expect.write(m, 54, 23, 3));
        whole("1: not enabled in the last", m, 1, low);
        m.guard(low, Expect.write(m, 53, 1, 1));
        m.invariant(1, Expect.write(m, 54, 23, 3));
        whole("1: the last is not right", m, 1, low);
    }

    // Terms: "2 KEEPING of an upper event: .. where it leads is right above, if it is a state."

    private static void upperKeepingOfAState() {
        GluedMachines m = new GluedMachines();
        m.variable(0, 4, 0);
        m.variable(1, 2, 0);
        int e = m.event(0, 1, -1);
        m.invariant(0, Expect.write(m, 53, 20, 0));
        m.assign(e, 0, Expect.write(m, 3));
        broken("2: to the greatest value", m, 2, e, ZEROS);
        m.assign(e, 0, Expect.write(m, 4));
        whole("2: to no state", m, 2, e);
        m.assign(e, 0, Expect.write(m, 51, 0, 1));
        whole("2: to no state below 0", m, 2, e);
        m.assign(e, 0, Expect.write(m, 3));
        m.assign(e, 1, Expect.write(m, 1));
        broken("2: both within", m, 2, e, ZEROS);
        m.assign(e, 1, Expect.write(m, 2));
        whole("2: another variable beyond", m, 2, e);
        m.assign(e, 1, Expect.write(m, 1));
        m.assign(e, 2, Expect.write(m, 1));
        whole("2: the last variable beyond", m, 2, e);
    }

    private static void upperKeepingIgnoresLowerInvariants() {
        GluedMachines m = new GluedMachines();
        m.variable(0, 2, 0);
        int e = m.event(0, 1, -1);
        m.assign(e, 0, Expect.write(m, 1));
        int zero = Expect.write(m, 53, 20, 0);
        m.invariant(1, zero);
        whole("2: a lower invariant", m, 2, e);
        m.invariant(0, zero);
        broken("2: an upper invariant", m, 2, e, ZEROS);
    }

    // Terms: "3 KEEPING of a lower event: .. the state to which it leads together with its upper
    // event, done with the witness as parameter (of a new one: with the upper part as it was), is
    // right, if it is a state."

    private static void lowerKeepingOfAState() {
        GluedMachines m = new GluedMachines();
        m.variable(3, 4, 0);
        int e = m.event(1, 1, -1);
        m.invariant(1, Expect.write(m, 53, 23, 0));
        m.assign(e, 3, Expect.write(m, 3));
        broken("3: to the greatest value", m, 3, e, ZEROS);
        m.assign(e, 3, Expect.write(m, 4));
        whole("3: to no state", m, 3, e);
        m.assign(e, 3, Expect.write(m, 51, 0, 1));
        whole("3: to no state below 0", m, 3, e);
        m.assign(e, 3, Expect.write(m, 3));
        m.assign(e, 5, Expect.write(m, 0));
        broken("3: the last variable within", m, 3, e, ZEROS);
        m.assign(e, 5, Expect.write(m, 1));
        whole("3: the last variable beyond", m, 3, e);
    }

    private static void lowerKeepingOfAnUpperState() {
        GluedMachines m = new GluedMachines();
        m.variable(0, 3, 0);
        m.variable(3, 2, 0);
        int up = m.event(0, 1, -1);
        int low = m.event(1, 1, up);
        m.invariant(1, Expect.write(m, 53, 23, 0));
        m.assign(low, 3, Expect.write(m, 1));
        m.assign(up, 0, Expect.write(m, 2));
        broken("3: the upper event leads to a state", m, 3, low, ZEROS);
        m.assign(up, 0, Expect.write(m, 3));
        whole("3: the upper event leads to none", m, 3, low);
        m.assign(up, 0, Expect.write(m, 51, 0, 1));
        whole("3: the upper event leads below 0", m, 3, low);
    }

    private static void lowerKeepingWithWitnessBeyond() {
        GluedMachines m = new GluedMachines();
        m.variable(0, 4, 0);
        int up = m.event(0, 2, -1);
        int low = m.event(1, 1, up);
        m.assign(up, 0, Expect.write(m, 40));
        m.invariant(0, Expect.write(m, 54, 20, 2));
        m.witness(low, Expect.write(m, 1));
        whole("3: the last witness of the range", m, 3, low);
        m.witness(low, Expect.write(m, 2));
        broken("3: the first beyond is done too", m, 3, low, ZEROS);
        m.witness(low, Expect.write(m, 4));
        whole("3: one that leads to no state", m, 3, low);
        m.guard(up, Expect.write(m, 53, 1, 2));
        m.witness(low, Expect.write(m, 3));
        broken("3: an upper event that is not enabled", m, 3, low, ZEROS);
    }

    private static void newLeavesTheUpperPart() {
        GluedMachines m = new GluedMachines();
        for (int v = 0; v <= 3; v++) {
            m.variable(v, 4, 0);
        }
        int up = m.event(0, 1, -1);
        m.assign(up, 0, Expect.write(m, 0));
        int e = m.event(1, 1, -1);
        m.assign(e, 3, Expect.write(m, 3));
        m.invariant(1, Expect.write(m, 57, 54, 23, 50, 20, 50, 21, 22));
        m.invariant(0, Expect.write(m, 54, 50, 20, 50, 21, 22, 4));
        whole("3: enough for each upper part", m, 3, e);
        m.assign(e, 3, Expect.write(m, 2));
        broken("3: too little for one", m, 3, e, "0 0 3 3 0 0 0");
    }

    // Terms: "4 STRONGER .. the witness is within the range of the upper event, and that is enabled
    // with it. (The witness is its value in that state with the lower event's parameter.)"

    private static void strongerAtTheBoundsOfTheRange() {
        for (int range = 1; range <= 4; range++) {
            GluedMachines m = new GluedMachines();
            int up = m.event(0, range, -1);
            int low = m.event(1, 1, up);
            whole("4: 0 at first", m, 4, low);
            m.witness(low, Expect.write(m, range - 1));
            whole("4: the last of range " + range, m, 4, low);
            m.witness(low, Expect.write(m, range));
            broken("4: the range " + range, m, 4, low, ZEROS);
            m.witness(low, Expect.write(m, 0));
            whole("4: 0", m, 4, low);
            m.witness(low, Expect.write(m, 51, 0, 1));
            broken("4: -1", m, 4, low, ZEROS);
            m.witness(low, Expect.write(m, 52, 52, 9, 9, 52, 9, 9));
            broken("4: 999", m, 4, low, ZEROS);
            m.witness(low, Expect.write(m, 51, 0, 52, 52, 9, 9, 52, 9, 9));
            broken("4: -999", m, 4, low, ZEROS);
        }
    }

    private static void strongerNeedsTheUpperGuard() {
        GluedMachines m = new GluedMachines();
        m.variable(0, 4, 0);
        int up = m.event(0, 4, -1);
        int low = m.event(1, 4, up);
        m.witness(low, Expect.write(m, 40));
        m.guard(up, Expect.write(m, 57, 54, 20, 40));
        broken("4: enabled with no more than it", m, 4, low, "0 0 0 0 0 0 1");
        m.guard(low, Expect.write(m, 57, 54, 20, 40));
        whole("4: enabled with the same alone", m, 4, low);
        m.guard(up, Expect.write(m, 54, 40, 20));
        broken("4: enabled with less alone", m, 4, low, ZEROS);
        m.guard(low, Expect.write(m, 54, 40, 20));
        whole("4: less alone", m, 4, low);
        m.guard(low, Expect.write(m, 53, 1, 2));
        whole("4: never enabled", m, 4, low);
    }

    private static void witnessBeforeTheStep() {
        GluedMachines m = new GluedMachines();
        m.variable(3, 4, 0);
        int up = m.event(0, 3, -1);
        int low = m.event(1, 4, up);
        m.assign(low, 3, Expect.write(m, 3));
        m.witness(low, Expect.write(m, 23));
        broken("4: the value in that state", m, 4, low, "0 0 0 3 0 0 0");
        m.witness(low, Expect.write(m, 40));
        broken("4: the lower event's parameter", m, 4, low, "0 0 0 0 0 0 3");
    }

    // Terms: "5 LOWERING .. the variant is not below 0, and is less in the state that 3 speaks of,
    // if it is one."

    private static void variantNotBelowZero() {
        GluedMachines m = new GluedMachines();
        m.variable(3, 4, 0);
        int e = m.event(1, 1, -1);
        m.guard(e, Expect.write(m, 54, 0, 23));
        m.assign(e, 3, Expect.write(m, 51, 23, 1));
        m.variant(Expect.write(m, 51, 23, 1));
        whole("5: 0 before the step, -1 after it", m, 5, e);
        m.variant(Expect.write(m, 51, 23, 2));
        broken("5: -1 before the step", m, 5, e, "0 0 0 1 0 0 0");
        m.variant(Expect.write(m, 52, 23, 52, 9, 9));
        whole("5: far above 0", m, 5, e);
    }

    private static void variantIsLess() {
        GluedMachines m = new GluedMachines();
        m.variable(3, 3, 0);
        int e = m.event(1, 1, -1);
        m.guard(e, Expect.write(m, 53, 23, 1));
        m.variant(Expect.write(m, 50, 23, 5));
        m.assign(e, 3, Expect.write(m, 0));
        whole("5: less by 1", m, 5, e);
        m.assign(e, 3, Expect.write(m, 1));
        broken("5: the same", m, 5, e, "0 0 0 1 0 0 0");
        m.assign(e, 3, Expect.write(m, 2));
        broken("5: more by 1", m, 5, e, "0 0 0 1 0 0 0");
        GluedMachines far = new GluedMachines();
        far.variable(3, 2, 0);
        int f = far.event(1, 1, -1);
        far.guard(f, Expect.write(far, 53, 23, 1));
        far.assign(f, 3, Expect.write(far, 0));
        far.variant(Expect.write(far, 50, 23, 52, 52, 9, 9, 52, 9, 9));
        broken("5: 999 and one more are the same", far, 5, f, "0 0 0 1 0 0 0");
    }

    private static void variantOfNoState() {
        GluedMachines m = new GluedMachines();
        m.variable(3, 2, 0);
        int e = m.event(1, 1, -1);
        m.assign(e, 3, Expect.write(m, 1));
        broken("5: at first 0, to a state", m, 5, e, ZEROS);
        m.assign(e, 3, Expect.write(m, 2));
        whole("5: at first 0, to no state", m, 5, e);
        m.variant(Expect.write(m, 51, 0, 1));
        broken("5: below 0, to no state", m, 5, e, ZEROS);
        m.variant(Expect.write(m, 0));
        whole("5: 0, to no state", m, 5, e);
    }

    // Terms: "6 MOVING: in each right state some lower event is enabled with some parameter."

    private static void movingOfOneEvent() {
        GluedMachines m = new GluedMachines();
        int never = Expect.write(m, 53, 1, 2);
        for (int i = 0; i < 12; i++) {
            m.guard(m.event(1, 4, -1), never);
        }
        broken("6: none", m, 6, 0, ZEROS);
        m.guard(11, Expect.write(m, 53, 40, 3));
        whole("6: the last with its last parameter", m, 6, 0);
        m.guard(11, Expect.write(m, 53, 40, 4));
        broken("6: none with its range", m, 6, 0, ZEROS);
        m.guard(0, Expect.write(m, 53, 40, 0));
        whole("6: the first with its first parameter", m, 6, 0);
    }

    private static void movingByTheGuardAlone() {
        GluedMachines m = new GluedMachines();
        int up = m.event(0, 1, -1);
        int low = m.event(1, 1, up);
        m.guard(up, Expect.write(m, 53, 1, 2));
        m.assign(low, 3, Expect.write(m, 1));
        whole("6: where it leads does not matter", m, 6, 0);
        m.guard(low, Expect.write(m, 53, 1, 2));
        broken("6: its guard does", m, 6, 0, ZEROS);
    }

    private static void movingOfLowerEventsAlone() {
        GluedMachines m = new GluedMachines();
        m.variable(5, 2, 0);
        broken("6: no events", m, 6, 0, ZEROS);
        m.event(0, 4, -1);
        broken("6: an upper event", m, 6, 0, ZEROS);
        m.invariant(1, Expect.write(m, 53, 25, 1));
        broken("6: the first right state", m, 6, 0, "0 0 0 0 0 1 0");
        m.event(1, 1, -1);
        whole("6: a lower event", m, 6, 0);
    }

    // Terms: "the first of these is shown: by variable 0, then 1, .. 5, then the parameter, lesser
    // values first (upper duties have 0 for all lower variables; 0 and 6 the parameter 0)."

    /** Of two that break it, one with a value in a place, one with a value in the next place. */
    private static void firstByEachPlace() {
        for (int place = 0; place < 6; place++) {
            GluedMachines m = allOfSizeFour();
            int e = m.event(1, 4, -1);
            int first = wordOf(place);
            int second = wordOf(place + 1);
            m.assign(e, 3, Expect.write(m, 9));
            m.guard(e, Expect.write(m, 56, 53, first, 3, 53, second, 3));
            broken("first: the later place counts less", m, 1, e, withOne(place + 1, 3));
            m.guard(e, Expect.write(m, 56, 55, 53, first, 1, 53, second, 3, 55, 53, first, 2,
                    53, second, 1));
            int[] due = new int[7];
            due[place] = 1;
            due[place + 1] = 3;
            broken("first: the earlier place counts more", m, 1, e, textOf(due));
            m.guard(e, Expect.write(m, 54, 1, first));
            broken("first: lesser values", m, 1, e, withOne(place, 2));
        }
    }

    private static GluedMachines allOfSizeFour() {
        GluedMachines m = new GluedMachines();
        for (int v = 0; v <= 5; v++) {
            m.variable(v, 4, 0);
        }
        return m;
    }

    private static int wordOf(int place) {
        return place == 6 ? 40 : 20 + place;
    }

    private static String withOne(int place, int value) {
        int[] all = new int[7];
        all[place] = value;
        return textOf(all);
    }

    private static String textOf(int[] all) {
        String text = Arrays.toString(all);
        return text.substring(1, text.length() - 1).replace(",", "");
    }

    private static void lastOfAll() {
        GluedMachines m = allOfSizeFour();
        int e = m.event(1, 4, -1);
        int[] sum = {20, 50, 21, 50, 22, 50, 23, 50, 24, 50, 25, 40};
        int[] words = new int[17];
        System.arraycopy(new int[] {53, 52, 3, 7, 50}, 0, words, 0, 5);
        System.arraycopy(sum, 0, words, 5, 12);
        m.guard(e, Expect.write(m, words));
        m.assign(e, 3, Expect.write(m, 4));
        broken("first: it is the last of all", m, 1, e, "3 3 3 3 3 3 3");
        m.guard(e, Expect.write(m, 54, 3, 25));
        whole("first: none is behind it", m, 1, e);
        int[] sums = {57, 53, 52, 3, 6, 50, 20, 50, 21, 50, 22, 50, 23, 50, 24, 25};
        m.guard(e, Expect.write(m, sums));
        broken("first: the last state does not move", m, 6, 0, "3 3 3 3 3 3 0");
    }

    private static void upperDutiesShowNoLowerValues() {
        GluedMachines m = new GluedMachines();
        for (int v = 0; v <= 5; v++) {
            m.variable(v, 4, 3);
        }
        int e = m.event(0, 4, -1);
        m.invariant(1, Expect.write(m, 53, 23, 3));
        m.invariant(0, Expect.write(m, 54, 22, 3));
        m.guard(e, Expect.write(m, 53, 40, 3));
        m.assign(e, 2, Expect.write(m, 50, 22, 1));
        whole("1: within", m, 1, e);
        broken("2: no lower values", m, 2, e, "0 0 2 0 0 0 3");
        m.assign(e, 2, Expect.write(m, 50, 22, 2));
        broken("1: no lower values", m, 1, e, "0 0 2 0 0 0 3");
    }

    /** A state is looked at though the event itself says nothing of the variable. */
    private static void whatAnInvariantAloneReads() {
        for (int v = 0; v <= 5; v++) {
            for (int machine = v < 3 ? 0 : 1; machine <= 1; machine++) {
                GluedMachines m = allOfSizeFour();
                String what = "invariant of " + machine + " on variable " + v;
                m.invariant(machine, Expect.write(m, 53, 3, 20 + v));
                int nine = Expect.write(m, 9);
                int up = m.event(0, 1, -1);
                int low = m.event(1, 1, up);
                int fresh = m.event(1, 1, -1);
                m.assign(up, 0, nine);
                broken(what + ": 1 above", m, 1, up, machine == 0 ? withOne(v, 3) : ZEROS);
                m.assign(up, 0, Expect.write(m, 0));
                m.assign(low, 3, nine);
                broken(what + ": 1 below", m, 1, low, withOne(v, 3));
                m.witness(low, nine);
                broken(what + ": 4", m, 4, low, withOne(v, 3));
                broken(what + ": 5", m, 5, fresh, withOne(v, 3));
                int never = Expect.write(m, 53, 1, 2);
                m.guard(low, never);
                m.guard(fresh, never);
                broken(what + ": 6", m, 6, 0, withOne(v, 3));
                m.assign(v < 3 ? up : fresh, v, Expect.write(m, 2));
                m.guard(fresh, Expect.write(m, 53, 1, 1));
                if (v >= 3) {
                    broken(what + ": 3", m, 3, fresh, withOne(v, 3));
                } else if (machine == 0) {
                    broken(what + ": 2", m, 2, up, withOne(v, 3));
                }
            }
        }
    }

    private static void whatAGuardAloneReads() {
        for (int place = 0; place <= 6; place++) {
            GluedMachines m = allOfSizeFour();
            int e = m.event(1, 4, -1);
            m.assign(e, 3, Expect.write(m, 9));
            m.guard(e, Expect.write(m, 53, wordOf(place), 3));
            broken("guard on " + place + ": 1", m, 1, e, withOne(place, 3));
            m.guard(e, Expect.write(m, 54, wordOf(place), 3));
            if (place < 6) {
                broken("guard on " + place + ": 6", m, 6, 0, withOne(place, 3));
            } else {
                whole("guard on the parameter: 6", m, 6, 0);
            }
        }
    }

    private static void whatAnUpperEventAloneReads() {
        for (int v = 0; v <= 2; v++) {
            GluedMachines m = allOfSizeFour();
            m.variable(0, 2, 0);
            m.variable(3, 2, 0);
            int up = m.event(0, 1, -1);
            int low = m.event(1, 4, up);
            int last = v == 0 ? 1 : 3;
            m.guard(up, Expect.write(m, 54, 20 + v, last));
            broken("upper guard on " + v + ": 4", m, 4, low, withOne(v, last));
            m.invariant(1, Expect.write(m, 53, 23, 0));
            m.assign(low, 3, Expect.write(m, 1));
            m.assign(up, 0, Expect.write(m, 51, 20 + v, last));
            broken("upper assignment of " + v + ": 3", m, 3, low, withOne(v, last));
        }
        for (int place = 0; place <= 6; place++) {
            GluedMachines m = allOfSizeFour();
            int low = m.event(1, 4, m.event(0, 3, -1));
            m.witness(low, Expect.write(m, wordOf(place)));
            broken("witness of " + place + ": 4", m, 4, low, withOne(place, 3));
        }
    }

    private static void whatAVariantAloneReads() {
        for (int v = 0; v <= 5; v++) {
            GluedMachines m = allOfSizeFour();
            int e = m.event(1, 1, -1);
            m.variant(Expect.write(m, 51, 2, 20 + v));
            broken("variant of " + v + ": not less", m, 5, e, ZEROS);
            m.assign(e, 3, Expect.write(m, 9));
            broken("variant of " + v + ": below 0", m, 5, e, withOne(v, 3));
        }
    }

    private static void parameterOfBeginningAndMoving() {
        GluedMachines m = new GluedMachines();
        m.variable(0, 4, 3);
        int e = m.event(1, 4, -1);
        m.invariant(1, Expect.write(m, 54, 20, 3));
        m.guard(e, Expect.write(m, 54, 40, 20));
        Expect.same("1: done", true, m.done(1, e));
        broken("6: the parameter is 0", m, 6, 0, ZEROS);
        Expect.same("5: broken", false, m.done(5, e));
        broken("0: the parameter is 0", m, 0, 0, "3 0 0 0 0 0 0");
    }

    // Promise 13: "How many duties of kinds 0 to 5 (not 6) are not done; what is shown stays."

    private static void openOfNothing() {
        GluedMachines m = new GluedMachines();
        Expect.same("13: a new object", 0, m.open());
        m.invariant(0, Expect.write(m, 53, 1, 2));
        Expect.same("13: the beginning", 1, m.open());
    }

    private static void openOfAll() {
        GluedMachines m = new GluedMachines();
        m.variable(0, 2, 1);
        m.variable(3, 2, 1);
        int parameter = Expect.write(m, 40);
        m.invariant(0, Expect.write(m, 53, 20, 0));
        m.invariant(1, Expect.write(m, 53, 23, 0));
        for (int i = 0; i < 12; i++) {
            Expect.same("13: events " + i, 1 + 3 * i, m.open());
            int e = m.event(1, 3, -1);
            m.assign(e, 3, parameter);
        }
        Expect.same("13: all duties of 12 new events", 37, m.open());
        GluedMachines upper = new GluedMachines();
        upper.variable(0, 2, 1);
        upper.invariant(0, Expect.write(upper, 53, 20, 0));
        int up = upper.event(0, 3, -1);
        int itself = Expect.write(upper, 40);
        upper.assign(up, 0, itself);
        Expect.same("13: both of an upper event", 3, upper.open());
        int low = upper.event(1, 3, up);
        upper.assign(low, 3, itself);
        upper.witness(low, Expect.write(upper, 51, 4, 40));
        Expect.same("13: range and stronger of one that refines", 5, upper.open());
        upper.witness(low, Expect.write(upper, 50, 1, 52, 9, 40));
        Expect.same("13: all three of one that refines", 6, upper.open());
    }

    private static void openWithoutMoving() {
        GluedMachines m = new GluedMachines();
        int e = m.event(1, 1, -1);
        m.guard(e, Expect.write(m, 53, 1, 2));
        Expect.same("6: it does not move", false, m.done(6, 0));
        Expect.same("13: that is not counted", 0, m.open());
    }

    private static void openLeavesWhatIsShown() {
        GluedMachines m = new GluedMachines();
        m.variable(1, 4, 3);
        m.invariant(0, Expect.write(m, 53, 21, 0));
        int e = m.event(1, 1, -1);
        Expect.same("13: two", 2, m.open());
        Expect.same("13: nothing is shown still", NOTHING, Expect.shown(m));
        broken("0: broken", m, 0, 0, "0 3 0 0 0 0 0");
        m.assign(e, 3, Expect.write(m, 1));
        Expect.same("13: two again", 2, m.open());
        Expect.same("13: what is shown stays", "0 3 0 0 0 0 0", Expect.shown(m));
    }
}
