/** Promises 5 to 10: event, guard, assign, witness, invariant, variant. */
public final class ModelPromisesTest {
    public static void main(String[] args) {
        event();
        eventLimit();
        guard();
        assign();
        witness();
        invariant();
        invariantLimit();
        variant();
        Expect.close();
    }

    private static void event() {
        GluedMachines m = new GluedMachines();
        Expect.badArgument("5: no event is refined yet", () -> m.event(1, 1, 0));
        Expect.same("5: upper", 0, m.event(0, 4, -1));
        Expect.same("5: lower", 1, m.event(1, 1, 0));
        Expect.same("5: new", 2, m.event(1, 4, -1));
        Expect.badArgument("5: machine -1", () -> m.event(-1, 1, -1));
        Expect.badArgument("5: machine 2", () -> m.event(2, 1, -1));
        Expect.badArgument("5: range 0", () -> m.event(0, 0, -1));
        Expect.badArgument("5: range 5", () -> m.event(1, 5, -1));
        Expect.badArgument("5: least range", () -> m.event(1, Integer.MIN_VALUE, -1));
        Expect.badArgument("5: upper refines upper", () -> m.event(0, 1, 0));
        Expect.badArgument("5: upper refines lower", () -> m.event(0, 1, 1));
        Expect.badArgument("5: upper refines none such", () -> m.event(0, 1, -2));
        Expect.badArgument("5: lower refines lower", () -> m.event(1, 1, 1));
        Expect.badArgument("5: lower refines itself", () -> m.event(1, 1, 3));
        Expect.badArgument("5: lower refines none such", () -> m.event(1, 1, -2));
        Expect.same("5: refused ones take no number", 3, m.event(0, 1, -1));
        Expect.same("5: a later upper event", 4, m.event(1, 1, 3));
        m.start();
        Expect.same("5: greatest parameter", true, m.enabled(2, 3));
        Expect.badArgument("5: beyond the range", () -> m.enabled(2, 4));
        Expect.same("5: at first all is enabled", 1, m.fire(1, 0));
        Expect.same("5: at first nothing is assigned", "0 0 0 0 0 0", Expect.values(m));
        Expect.same("5: the witness is at first 0", false, m.torn());
    }

    private static void eventLimit() {
        GluedMachines m = new GluedMachines();
        for (int i = 0; i < 12; i++) {
            Expect.same("5: event " + i, i, m.event(i % 2, 1, -1));
        }
        Expect.badState("5: 12 events", () -> m.event(1, 1, 0));
        Expect.badArgument("5: no range, and 12 events", () -> m.event(1, 5, 0));
        Expect.fine("5: the last one is there", () -> m.guard(11, Expect.write(m, 53, 1, 1)));
    }

    private static void guard() {
        GluedMachines m = new GluedMachines();
        m.variable(3, 2, 1);
        int upper = m.event(0, 2, -1);
        int lower = m.event(1, 2, -1);
        int number = Expect.write(m, 40);
        int ofUpper = Expect.write(m, 53, 20, 40);
        int ofLower = Expect.write(m, 53, 23, 40);
        int never = Expect.write(m, 54, 1, 0);
        Expect.fine("6: upper variables above", () -> m.guard(upper, ofUpper));
        Expect.badArgument("6: lower variables above", () -> m.guard(upper, ofLower));
        Expect.badArgument("6: variable 5 above", () -> m.guard(upper, Expect.write(m, 53, 25, 0)));
        Expect.fine("6: variable 2 above", () -> m.guard(upper, Expect.write(m, 53, 22, 0)));
        Expect.badArgument("6: a number", () -> m.guard(lower, number));
        Expect.badArgument("6: no such event", () -> m.guard(2, ofUpper));
        Expect.badArgument("6: event -1", () -> m.guard(-1, ofUpper));
        Expect.badArgument("6: no such formula", () -> m.guard(lower, 30));
        Expect.badArgument("6: formula -1", () -> m.guard(lower, -1));
        m.start();
        Expect.same("6: refused ones change nothing", true, m.enabled(lower, 0));
        m.guard(lower, ofLower);
        Expect.same("6: fails with 0", false, m.enabled(lower, 0));
        Expect.same("6: holds with 1", true, m.enabled(lower, 1));
        m.guard(lower, ofUpper);
        Expect.same("6: upper variables below", true, m.enabled(lower, 0));
        m.guard(lower, never);
        Expect.same("6: in place of the one before", false, m.enabled(lower, 0));
    }

    private static void assign() {
        GluedMachines m = new GluedMachines();
        for (int v = 0; v <= 5; v++) {
            m.variable(v, 4, v % 3);
        }
        int upper = m.event(0, 4, -1);
        int lower = m.event(1, 4, upper);
        int parameter = Expect.write(m, 40);
        int four = Expect.write(m, 24);
        int five = Expect.write(m, 25);
        int truth = Expect.write(m, 53, 1, 1);
        Expect.fine("7: variable 0 above", () -> m.assign(upper, 0, Expect.write(m, 21)));
        Expect.fine("7: variable 2 above", () -> m.assign(upper, 2, parameter));
        Expect.badArgument("7: variable 3 above", () -> m.assign(upper, 3, parameter));
        Expect.badArgument("7: variable 2 below", () -> m.assign(lower, 2, parameter));
        Expect.badArgument("7: variable -1", () -> m.assign(upper, -1, parameter));
        Expect.badArgument("7: variable 6", () -> m.assign(lower, 6, parameter));
        Expect.badArgument("7: lower variables above", () -> m.assign(upper, 1, four));
        Expect.badArgument("7: a truth", () -> m.assign(lower, 3, truth));
        Expect.badArgument("7: no such event", () -> m.assign(2, 3, parameter));
        Expect.badArgument("7: event -1", () -> m.assign(-1, 3, parameter));
        Expect.badArgument("7: no such formula", () -> m.assign(lower, 3, 30));
        Expect.badArgument("7: formula -1", () -> m.assign(lower, 3, -1));
        m.assign(lower, 4, five);
        m.assign(lower, 5, four);
        m.assign(lower, 3, Expect.write(m, 1));
        m.assign(lower, 3, parameter);
        m.witness(lower, Expect.write(m, 51, 3, 40));
        m.start();
        m.fire(lower, 3);
        Expect.same("7: all from the state before", "1 1 0 3 2 1", Expect.values(m));
        m.assign(lower, 3, Expect.write(m, 22));
        m.fire(lower, 0);
        Expect.same("7: upper variables below, before their change", "1 1 3 0 1 2",
                Expect.values(m));
    }

    private static void witness() {
        GluedMachines m = new GluedMachines();
        m.variable(0, 4, 0);
        m.variable(3, 4, 3);
        int upper = m.event(0, 4, -1);
        int lower = m.event(1, 4, upper);
        int fresh = m.event(1, 4, -1);
        int mixed = Expect.write(m, 51, 23, 40);
        int truth = Expect.write(m, 53, 1, 1);
        m.assign(upper, 0, Expect.write(m, 40));
        m.assign(lower, 3, Expect.write(m, 2));
        Expect.badArgument("8: an upper event", () -> m.witness(upper, mixed));
        Expect.badArgument("8: a new event", () -> m.witness(fresh, mixed));
        Expect.badArgument("8: no such event", () -> m.witness(3, mixed));
        Expect.badArgument("8: event -1", () -> m.witness(-1, mixed));
        Expect.badArgument("8: a truth", () -> m.witness(lower, truth));
        Expect.badArgument("8: no such formula", () -> m.witness(lower, 30));
        Expect.badArgument("8: formula -1", () -> m.witness(lower, -1));
        m.start();
        m.fire(lower, 1);
        Expect.same("8: at first 0", "0 0 0 2 0 0", Expect.values(m));
        m.back();
        m.witness(lower, Expect.write(m, 1));
        m.witness(lower, mixed);
        m.fire(lower, 1);
        Expect.same("8: of the state before", "2 0 0 2 0 0", Expect.values(m));
    }

    private static void invariant() {
        GluedMachines m = new GluedMachines();
        m.variable(0, 2, 1);
        m.variable(3, 2, 1);
        int ofUpper = Expect.write(m, 53, 20, 1);
        int ofLower = Expect.write(m, 53, 20, 23);
        int withParameter = Expect.write(m, 53, 40, 40);
        int number = Expect.write(m, 1);
        Expect.same("9: first upper", 1, m.invariant(0, ofUpper));
        Expect.same("9: first lower", 1, m.invariant(1, ofUpper));
        Expect.same("9: second lower", 2, m.invariant(1, ofLower));
        Expect.badArgument("9: lower variables above", () -> m.invariant(0, ofLower));
        Expect.badArgument("9: the parameter above", () -> m.invariant(0, withParameter));
        Expect.badArgument("9: the parameter below", () -> m.invariant(1, withParameter));
        Expect.badArgument("9: a number", () -> m.invariant(1, number));
        Expect.badArgument("9: machine -1", () -> m.invariant(-1, ofUpper));
        Expect.badArgument("9: machine 2", () -> m.invariant(2, ofUpper));
        Expect.badArgument("9: no such formula", () -> m.invariant(1, 4));
        Expect.badArgument("9: formula -1", () -> m.invariant(1, -1));
        Expect.same("9: they hold", true, m.right());
        m.variable(3, 2, 0);
        Expect.same("9: a lower one fails", false, m.right());
        m.variable(3, 2, 1);
        m.invariant(1, Expect.write(m, 53, 23, 0));
        Expect.same("9: one more fails", false, m.right());
        Expect.same("9: and is no duty above", false, m.done(0, 0));
    }

    private static void invariantLimit() {
        GluedMachines m = new GluedMachines();
        int truth = Expect.write(m, 53, 1, 1);
        int number = Expect.write(m, 1);
        for (int i = 1; i <= 6; i++) {
            Expect.same("9: upper invariant " + i, i, m.invariant(0, truth));
        }
        Expect.badState("9: 6 upper ones", () -> m.invariant(0, truth));
        Expect.badArgument("9: a number, and 6", () -> m.invariant(0, number));
        for (int i = 1; i <= 6; i++) {
            Expect.same("9: lower invariant " + i, i, m.invariant(1, truth));
        }
        Expect.badState("9: 6 lower ones", () -> m.invariant(1, truth));
    }

    private static void variant() {
        GluedMachines m = new GluedMachines();
        m.variable(3, 4, 3);
        int fresh = m.event(1, 1, -1);
        int three = Expect.write(m, 23);
        m.assign(fresh, 3, Expect.write(m, 51, 23, 1));
        Expect.badArgument("10: the parameter", () -> m.variant(Expect.write(m, 50, 23, 40)));
        Expect.badArgument("10: a truth", () -> m.variant(Expect.write(m, 53, 1, 1)));
        Expect.badArgument("10: no such formula", () -> m.variant(30));
        Expect.badArgument("10: formula -1", () -> m.variant(-1));
        Expect.same("10: at first 0, which is not lowered", false, m.done(5, fresh));
        m.variant(Expect.write(m, 51, 1, 23));
        Expect.same("10: one that goes up", false, m.done(5, fresh));
        m.variant(three);
        Expect.same("10: in place of the one before", true, m.done(5, fresh));
        m.variant(Expect.write(m, 50, 23, 20));
        Expect.same("10: any variables", true, m.done(5, fresh));
    }
}
