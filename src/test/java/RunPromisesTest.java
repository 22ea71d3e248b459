/** Promises 14 to 20: start, enabled, fire, back, value, torn, right. */
public final class RunPromisesTest {
    public static void main(String[] args) {
        start();
        enabled();
        fire();
        fireSixty();
        back();
        value();
        torn();
        tornByRange();
        right();
        Expect.close();
    }

    private static void start() {
        GluedMachines m = new GluedMachines();
        m.variable(0, 2, 1);
        m.variable(3, 4, 1);
        m.invariant(1, Expect.write(m, 53, 20, 0));
        int e = m.event(1, 1, -1);
        m.assign(e, 3, Expect.write(m, 50, 23, 1));
        m.start();
        Expect.same("14: a first state that is not right", false, m.right());
        Expect.same("14: is begun in", "1 0 0 1 0 0", Expect.values(m));
        m.fire(e, 0);
        m.fire(e, 0);
        m.start();
        Expect.same("14: anew", "1 0 0 1 0 0", Expect.values(m));
        Expect.badState("14: no step is left", () -> m.back());
        Expect.same("14: the first step", 1, m.fire(e, 0));
    }

    private static void enabled() {
        GluedMachines m = new GluedMachines();
        m.variable(0, 3, 0);
        m.variable(3, 3, 0);
        int up = m.event(0, 4, -1);
        int e = m.event(1, 4, up);
        int fresh = m.event(1, 1, -1);
        m.assign(e, 3, Expect.write(m, 40));
        m.guard(e, Expect.write(m, 54, 0, 40));
        Expect.badState("15: no run", () -> m.enabled(e, 0));
        Expect.badArgument("15: no event, and no run", () -> m.enabled(9, 0));
        Expect.badArgument("15: beyond the range, and no run", () -> m.enabled(e, 4));
        m.start();
        Expect.badArgument("15: an upper event", () -> m.enabled(up, 0));
        Expect.badArgument("15: no such event", () -> m.enabled(3, 0));
        Expect.badArgument("15: event -1", () -> m.enabled(-1, 0));
        Expect.badArgument("15: parameter -1", () -> m.enabled(e, -1));
        Expect.badArgument("15: parameter 4", () -> m.enabled(e, 4));
        Expect.badArgument("15: parameter 1 of range 1", () -> m.enabled(fresh, 1));
        Expect.same("15: the guard fails", false, m.enabled(e, 0));
        Expect.same("15: enabled", true, m.enabled(e, 1));
        Expect.same("15: enabled with 2", true, m.enabled(e, 2));
        Expect.same("15: leads to no state", false, m.enabled(e, 3));
        m.guard(up, Expect.write(m, 54, 1, 0));
        Expect.same("15: the upper guard does not matter", true, m.enabled(e, 1));
        m.assign(up, 0, Expect.write(m, 50, 40, 1));
        m.witness(e, Expect.write(m, 40));
        Expect.same("15: the upper one leads to a state", true, m.enabled(e, 1));
        Expect.same("15: the upper one leads to none", false, m.enabled(e, 2));
        m.fire(e, 1);
        Expect.same("15: torn", true, m.torn());
        Expect.same("15: enabled though torn", true, m.enabled(e, 1));
        Expect.same("15: not enabled, torn", false, m.enabled(e, 0));
        Expect.same("15: nothing happens", "2 0 0 1 0 0", Expect.values(m));
    }

    private static void fire() {
        GluedMachines m = new GluedMachines();
        m.variable(0, 4, 0);
        m.variable(3, 4, 0);
        int up = m.event(0, 4, -1);
        int e = m.event(1, 4, up);
        int fresh = m.event(1, 2, -1);
        m.assign(up, 0, Expect.write(m, 50, 20, 40));
        m.assign(e, 3, Expect.write(m, 50, 23, 40));
        m.assign(fresh, 4, Expect.write(m, 40));
        m.guard(e, Expect.write(m, 54, 0, 40));
        m.witness(e, Expect.write(m, 40));
        Expect.badState("16: no run", () -> m.fire(e, 1));
        Expect.badArgument("16: no event, and no run", () -> m.fire(up, 1));
        m.start();
        Expect.badArgument("16: an upper event", () -> m.fire(up, 0));
        Expect.badArgument("16: no such event", () -> m.fire(3, 0));
        Expect.badArgument("16: event -1", () -> m.fire(-1, 0));
        Expect.badArgument("16: parameter 4", () -> m.fire(e, 4));
        Expect.badArgument("16: parameter -1", () -> m.fire(e, -1));
        Expect.unsupported("16: the guard fails", () -> m.fire(e, 0));
        Expect.same("16: first step", 1, m.fire(e, 2));
        Expect.same("16: both machines", "2 0 0 2 0 0", Expect.values(m));
        Expect.unsupported("16: no state", () -> m.fire(e, 2));
        Expect.unsupported("16: no lower state of a new one", () -> m.fire(fresh, 1));
        Expect.same("16: refused ones are no steps", 2, m.fire(fresh, 0));
        Expect.same("16: a new one leaves the upper part", "2 0 0 2 0 0", Expect.values(m));
        Expect.same("16: third step", 3, m.fire(e, 1));
        Expect.same("16: its state", "3 0 0 3 0 0", Expect.values(m));
    }

    private static void fireSixty() {
        GluedMachines m = new GluedMachines();
        m.variable(3, 4, 0);
        int e = m.event(1, 4, -1);
        m.assign(e, 3, Expect.write(m, 40));
        m.start();
        for (int i = 1; i <= 60; i++) {
            Expect.same("16: step " + i, i, m.fire(e, i % 4));
        }
        Expect.unsupported("16: 60 steps", () -> m.fire(e, 1));
        Expect.same("16: enabled all the same", true, m.enabled(e, 1));
        for (int i = 59; i >= 0; i--) {
            Expect.same("17: step taken back", i, m.back());
            Expect.same("17: state after " + i, i % 4, m.value(3));
        }
        Expect.badState("17: none is left", () -> m.back());
        Expect.same("16: again", 1, m.fire(e, 3));
    }

    private static void back() {
        GluedMachines m = new GluedMachines();
        Expect.badState("17: no run", () -> m.back());
        m.variable(0, 4, 0);
        m.variable(3, 4, 1);
        int up = m.event(0, 1, -1);
        int e = m.event(1, 1, up);
        m.assign(up, 0, Expect.write(m, 50, 20, 1));
        m.assign(e, 3, Expect.write(m, 50, 23, 1));
        m.guard(up, Expect.write(m, 54, 20, 1));
        m.start();
        Expect.badState("17: no step", () -> m.back());
        m.fire(e, 0);
        m.fire(e, 0);
        Expect.same("17: torn by the second", true, m.torn());
        Expect.same("17: one is left", 1, m.back());
        Expect.same("17: whole again", false, m.torn());
        Expect.same("17: the state before", "1 0 0 2 0 0", Expect.values(m));
        m.guard(e, Expect.write(m, 54, 1, 1));
        Expect.same("17: whatever is told of the model", 0, m.back());
        Expect.same("17: the first state", "0 0 0 1 0 0", Expect.values(m));
        Expect.badState("17: none is left", () -> m.back());
    }

    private static void value() {
        GluedMachines m = new GluedMachines();
        for (int v = 0; v <= 5; v++) {
            m.variable(v, 4, 3 - v % 3);
        }
        Expect.same("18: no run", "0 0 0 0 0 0", Expect.values(m));
        Expect.badArgument("18: variable -1", () -> m.value(-1));
        Expect.badArgument("18: variable 6", () -> m.value(6));
        m.start();
        Expect.same("18: in the run", "3 2 1 3 2 1", Expect.values(m));
        Expect.badArgument("18: variable 6 in a run", () -> m.value(6));
        m.variable(0, 4, 3);
        Expect.same("18: the run is over", "0 0 0 0 0 0", Expect.values(m));
    }

    private static void torn() {
        GluedMachines m = new GluedMachines();
        m.variable(0, 4, 0);
        int up = m.event(0, 2, -1);
        int e = m.event(1, 4, up);
        int fresh = m.event(1, 1, -1);
        m.assign(up, 0, Expect.write(m, 50, 20, 40));
        m.guard(up, Expect.write(m, 54, 20, 1));
        m.witness(e, Expect.write(m, 40));
        Expect.same("19: no run", false, m.torn());
        m.start();
        m.fire(e, 1);
        Expect.same("19: enabled before the step", false, m.torn());
        m.fire(e, 1);
        Expect.same("19: the upper guard fails", true, m.torn());
        Expect.same("19: the step is done all the same", 2, m.value(0));
        Expect.unsupported("19: no more steps", () -> m.fire(e, 1));
        Expect.unsupported("19: not even new ones", () -> m.fire(fresh, 0));
        m.guard(up, Expect.write(m, 53, 1, 1));
        Expect.same("19: stays torn", true, m.torn());
        m.start();
        Expect.same("19: a new run is whole", false, m.torn());
        m.fire(e, 3);
        Expect.same("19: torn again", true, m.torn());
        m.variable(1, 1, 0);
        Expect.same("19: a run that is over", false, m.torn());
    }

    private static void tornByRange() {
        GluedMachines m = new GluedMachines();
        m.variable(0, 4, 0);
        int up = m.event(0, 2, -1);
        int e = m.event(1, 4, up);
        m.assign(up, 0, Expect.write(m, 52, 40, 40));
        m.witness(e, Expect.write(m, 51, 40, 1));
        m.start();
        m.fire(e, 2);
        Expect.same("19: greatest witness", "1 false", m.value(0) + " " + m.torn());
        m.fire(e, 1);
        Expect.same("19: least witness", "0 false", m.value(0) + " " + m.torn());
        m.fire(e, 0);
        Expect.same("19: a witness below 0", "1 true", m.value(0) + " " + m.torn());
        m.back();
        m.assign(up, 0, Expect.write(m, 40));
        m.fire(e, 3);
        Expect.same("19: a witness of the range", "2 true", m.value(0) + " " + m.torn());
    }

    private static void right() {
        GluedMachines m = new GluedMachines();
        m.variable(0, 2, 1);
        m.variable(3, 2, 1);
        Expect.same("20: no invariants", true, m.right());
        m.invariant(1, Expect.write(m, 53, 20, 23));
        int e = m.event(1, 2, -1);
        m.assign(e, 3, Expect.write(m, 40));
        Expect.same("20: initial values", true, m.right());
        m.start();
        m.fire(e, 0);
        Expect.same("20: the state of the run", false, m.right());
        m.fire(e, 1);
        Expect.same("20: right again", true, m.right());
        m.fire(e, 0);
        m.variable(4, 1, 0);
        Expect.same("20: initial values after the run", true, m.right());
        m.start();
        m.invariant(0, Expect.write(m, 53, 20, 0));
        Expect.same("20: upper invariants too", false, m.right());
    }
}
