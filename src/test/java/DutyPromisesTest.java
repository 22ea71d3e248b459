/** Promises 11 to 13: done, broken, open; and what each duty asks. */
public final class DutyPromisesTest {
    private static final String NOTHING = "-1 -1 -1 -1 -1 -1 -1";

    public static void main(String[] args) {
        whichDutiesThereAre();
        beginning();
        rangeOfUpper();
        rangeOfLower();
        keepingOfUpper();
        keepingOfLower();
        keepingWithWitness();
        keepingOfNew();
        stronger();
        lowering();
        loweringOfWhatTheVariantAloneReads();
        moving();
        whatIsShown();
        firstOfAll();
        open();
        Expect.close();
    }

    private static void broken(GluedMachines m, int kind, int event, String due) {
        Expect.same("duty " + kind + " of " + event, false, m.done(kind, event));
        Expect.same("duty " + kind + " of " + event + " shown", due, Expect.shown(m));
    }

    private static void whole(GluedMachines m, int kind, int event) {
        Expect.same("duty " + kind + " of " + event, true, m.done(kind, event));
        Expect.same("duty " + kind + " of " + event + " shown", NOTHING, Expect.shown(m));
    }

    private static void whichDutiesThereAre() {
        GluedMachines m = new GluedMachines();
        m.event(0, 1, -1);
        m.event(1, 1, 0);
        m.event(1, 1, -1);
        String[] kinds = {"06 12", "134", "135", "", ""};
        for (int event = -1; event <= 3; event++) {
            for (int kind = -1; kind <= 7; kind++) {
                int k = kind;
                int e = event;
                boolean has = event >= 0 && kind >= 0 && kinds[event].contains("" + kind);
                if (has) {
                    Expect.fine("11: done " + k + " " + e, () -> m.done(k, e));
                } else {
                    Expect.badArgument("11: done " + k + " " + e, () -> m.done(k, e));
                }
            }
        }
        GluedMachines none = new GluedMachines();
        Expect.fine("11: 0 without events", () -> none.done(0, 0));
        Expect.fine("11: 6 without events", () -> none.done(6, 0));
        Expect.badArgument("11: 1 without events", () -> none.done(1, 0));
        Expect.badArgument("11: far kinds", () -> m.done(33, 0));
        Expect.badArgument("11: far kinds below", () -> m.done(-31, 0));
    }

    private static void beginning() {
        GluedMachines m = new GluedMachines();
        m.variable(1, 3, 1);
        m.variable(5, 4, 2);
        whole(m, 0, 0);
        m.invariant(1, Expect.write(m, 53, 21, 25));
        broken(m, 0, 0, "0 1 0 0 0 2 0");
        m.variable(1, 3, 2);
        whole(m, 0, 0);
        m.invariant(0, Expect.write(m, 54, 21, 2));
        broken(m, 0, 0, "0 2 0 0 0 2 0");
    }

    private static void rangeOfUpper() {
        GluedMachines m = new GluedMachines();
        m.variable(0, 3, 0);
        m.variable(3, 4, 3);
        int e = m.event(0, 3, -1);
        whole(m, 1, e);
        m.assign(e, 0, Expect.write(m, 50, 20, 40));
        broken(m, 1, e, "1 0 0 0 0 0 2");
        m.guard(e, Expect.write(m, 54, 40, 2));
        broken(m, 1, e, "2 0 0 0 0 0 1");
        m.invariant(1, Expect.write(m, 54, 20, 2));
        broken(m, 1, e, "2 0 0 0 0 0 1");
        m.invariant(0, Expect.write(m, 54, 20, 2));
        whole(m, 1, e);
        m.assign(e, 0, Expect.write(m, 51, 20, 40));
        broken(m, 1, e, "0 0 0 0 0 0 1");
    }

    private static void rangeOfLower() {
        GluedMachines m = new GluedMachines();
        m.variable(0, 2, 0);
        m.variable(3, 2, 0);
        int up = m.event(0, 1, -1);
        m.assign(up, 0, Expect.write(m, 9));
        int e = m.event(1, 2, up);
        whole(m, 1, e);
        m.assign(e, 3, Expect.write(m, 50, 23, 40));
        broken(m, 1, e, "0 0 0 1 0 0 1");
        m.invariant(1, Expect.write(m, 53, 20, 23));
        broken(m, 1, e, "1 0 0 1 0 0 1");
        m.invariant(0, Expect.write(m, 53, 20, 0));
        whole(m, 1, e);
        m.assign(e, 4, Expect.write(m, 40));
        broken(m, 1, e, "0 0 0 0 0 0 1");
    }

    private static void keepingOfUpper() {
        GluedMachines m = new GluedMachines();
        m.variable(0, 4, 0);
        m.variable(2, 2, 0);
        int e = m.event(0, 2, -1);
        m.assign(e, 0, Expect.write(m, 50, 20, 40));
        whole(m, 2, e);
        m.invariant(1, Expect.write(m, 54, 20, 2));
        whole(m, 2, e);
        m.invariant(0, Expect.write(m, 54, 20, 3));
        broken(m, 2, e, "2 0 0 0 0 0 1");
        m.guard(e, Expect.write(m, 54, 20, 2));
        whole(m, 2, e);
        m.assign(e, 2, Expect.write(m, 50, 20, 1));
        m.invariant(0, Expect.write(m, 53, 22, 0));
        broken(m, 2, e, "0 0 0 0 0 0 0");
        m.assign(e, 2, Expect.write(m, 50, 20, 2));
        whole(m, 2, e);
    }

    private static void keepingOfLower() {
        GluedMachines m = new GluedMachines();
        m.variable(0, 3, 0);
        m.variable(3, 3, 0);
        int up = m.event(0, 1, -1);
        int e = m.event(1, 1, up);
        m.invariant(1, Expect.write(m, 53, 20, 23));
        m.assign(e, 3, Expect.write(m, 50, 23, 1));
        broken(m, 3, e, "0 0 0 0 0 0 0");
        m.assign(up, 0, Expect.write(m, 50, 20, 1));
        whole(m, 3, e);
        m.guard(up, Expect.write(m, 54, 20, 0));
        whole(m, 3, e);
        m.invariant(0, Expect.write(m, 57, 53, 20, 1));
        broken(m, 3, e, "0 0 0 0 0 0 0");
        m.guard(e, Expect.write(m, 54, 0, 23));
        whole(m, 3, e);
    }

    private static void keepingWithWitness() {
        GluedMachines m = new GluedMachines();
        m.variable(0, 4, 0);
        m.variable(3, 4, 0);
        int up = m.event(0, 1, -1);
        m.assign(up, 0, Expect.write(m, 40));
        int e = m.event(1, 4, up);
        m.assign(e, 3, Expect.write(m, 40));
        m.invariant(1, Expect.write(m, 53, 20, 23));
        broken(m, 3, e, "0 0 0 0 0 0 1");
        m.witness(e, Expect.write(m, 40));
        whole(m, 3, e);
        m.witness(e, Expect.write(m, 23));
        broken(m, 3, e, "0 0 0 0 0 0 1");
        m.guard(e, Expect.write(m, 53, 20, 40));
        whole(m, 3, e);
        m.witness(e, Expect.write(m, 50, 23, 4));
        whole(m, 3, e);
    }

    private static void keepingOfNew() {
        GluedMachines m = new GluedMachines();
        m.variable(1, 2, 0);
        m.variable(4, 3, 0);
        int e = m.event(1, 2, -1);
        m.assign(e, 4, Expect.write(m, 40));
        m.invariant(1, Expect.write(m, 57, 54, 24, 21));
        broken(m, 3, e, "0 1 0 0 1 0 0");
        m.guard(e, Expect.write(m, 53, 40, 1));
        whole(m, 3, e);
    }

    private static void stronger() {
        GluedMachines m = new GluedMachines();
        m.variable(0, 3, 0);
        m.variable(3, 3, 0);
        int up = m.event(0, 2, -1);
        int e = m.event(1, 3, up);
        whole(m, 4, e);
        m.witness(e, Expect.write(m, 40));
        broken(m, 4, e, "0 0 0 0 0 0 2");
        m.witness(e, Expect.write(m, 51, 1, 40));
        broken(m, 4, e, "0 0 0 0 0 0 2");
        m.guard(e, Expect.write(m, 54, 40, 2));
        whole(m, 4, e);
        m.guard(up, Expect.write(m, 54, 20, 50, 40, 2));
        broken(m, 4, e, "2 0 0 0 0 0 1");
        m.guard(e, Expect.write(m, 55, 54, 40, 2, 54, 23, 2));
        broken(m, 4, e, "2 0 0 0 0 0 1");
        m.invariant(1, Expect.write(m, 53, 20, 23));
        whole(m, 4, e);
        m.guard(up, Expect.write(m, 54, 20, 1));
        broken(m, 4, e, "1 0 0 1 0 0 0");
    }

    private static void lowering() {
        GluedMachines m = new GluedMachines();
        m.variable(3, 4, 0);
        m.variable(4, 2, 0);
        int e = m.event(1, 2, -1);
        int less = Expect.write(m, 51, 23, 40);
        m.assign(e, 3, less);
        m.variant(Expect.write(m, 23));
        broken(m, 5, e, "0 0 0 0 0 0 0");
        m.guard(e, Expect.write(m, 53, 40, 1));
        whole(m, 5, e);
        m.variant(Expect.write(m, 51, 23, 1));
        broken(m, 5, e, "0 0 0 0 0 0 1");
        m.invariant(1, Expect.write(m, 54, 0, 23));
        whole(m, 5, e);
        m.variant(Expect.write(m, 51, 24, 23));
        broken(m, 5, e, "0 0 0 1 0 0 1");
        m.variant(Expect.write(m, 3));
        broken(m, 5, e, "0 0 0 1 0 0 1");
        m.assign(e, 4, Expect.write(m, 2));
        whole(m, 5, e);
    }

    private static void loweringOfWhatTheVariantAloneReads() {
        GluedMachines m = new GluedMachines();
        m.variable(1, 2, 0);
        m.variable(4, 4, 0);
        int e = m.event(1, 2, -1);
        m.assign(e, 4, Expect.write(m, 3));
        m.variant(Expect.write(m, 51, 3, 24));
        broken(m, 5, e, "0 0 0 0 3 0 0");
        m.guard(e, Expect.write(m, 54, 24, 3));
        whole(m, 5, e);
        m.variant(Expect.write(m, 51, 51, 3, 24, 21));
        whole(m, 5, e);
        m.variant(Expect.write(m, 51, 51, 3, 24, 52, 3, 21));
        broken(m, 5, e, "0 1 0 0 1 0 0");
    }

    private static void moving() {
        GluedMachines m = new GluedMachines();
        m.variable(0, 2, 1);
        m.variable(3, 3, 2);
        broken(m, 6, 0, "0 0 0 0 0 0 0");
        m.event(0, 1, -1);
        broken(m, 6, 0, "0 0 0 0 0 0 0");
        int e = m.event(1, 3, -1);
        whole(m, 6, 0);
        m.assign(e, 3, Expect.write(m, 9));
        whole(m, 6, 0);
        m.guard(e, Expect.write(m, 54, 23, 40));
        broken(m, 6, 0, "0 0 0 2 0 0 0");
        int other = m.event(1, 1, 0);
        m.guard(other, Expect.write(m, 53, 20, 0));
        broken(m, 6, 0, "1 0 0 2 0 0 0");
        m.invariant(0, Expect.write(m, 54, 20, 1));
        whole(m, 6, 0);
    }

    private static void whatIsShown() {
        GluedMachines m = new GluedMachines();
        Expect.badArgument("12: -1", () -> m.broken(-1));
        Expect.badArgument("12: 7", () -> m.broken(7));
        m.variable(0, 2, 1);
        m.invariant(1, Expect.write(m, 53, 20, 0));
        broken(m, 0, 0, "1 0 0 0 0 0 0");
        Expect.badArgument("11: no such duty", () -> m.done(7, 0));
        Expect.badArgument("11: no such event", () -> m.done(1, 0));
        m.variable(0, 2, 0);
        int e = m.event(1, 1, -1);
        m.start();
        m.fire(e, 0);
        Expect.same("13: open", 1, m.open());
        Expect.same("12: shown until done is asked", "1 0 0 0 0 0 0", Expect.shown(m));
        whole(m, 0, 0);
        Expect.same("13: open", 1, m.open());
        Expect.same("13: open shows nothing", NOTHING, Expect.shown(m));
        Expect.same("11: the run goes on", 2, m.fire(e, 0));
    }

    private static void firstOfAll() {
        GluedMachines m = new GluedMachines();
        for (int v = 0; v <= 5; v++) {
            m.variable(v, 4, 0);
        }
        int e = m.event(1, 4, -1);
        int sum = Expect.write(m, 50, 20, 50, 21, 50, 22, 50, 23, 50, 24, 50, 25, 40);
        m.assign(e, 3, sum);
        broken(m, 1, e, "0 0 0 0 0 1 3");
        m.guard(e, Expect.write(m, 54, 25, 1));
        broken(m, 1, e, "0 0 0 0 1 0 3");
        m.guard(e, Expect.write(m, 55, 53, 0, 40, 53, 0, 50, 24, 50, 25, 21));
        broken(m, 1, e, "0 0 1 3 0 0 0");
        m.guard(e, Expect.write(m, 55, 53, 3, 40, 53, 3, 20));
        broken(m, 1, e, "3 0 0 0 0 0 3");
    }

    private static void open() {
        GluedMachines m = new GluedMachines();
        m.variable(0, 2, 1);
        m.variable(3, 2, 1);
        Expect.same("13: without events", 0, m.open());
        m.invariant(1, Expect.write(m, 53, 20, 23));
        m.invariant(0, Expect.write(m, 53, 20, 0));
        Expect.same("13: beginning", 1, m.open());
        int up = m.event(0, 2, -1);
        m.assign(up, 0, Expect.write(m, 40));
        Expect.same("13: keeping above", 2, m.open());
        m.assign(up, 1, Expect.write(m, 2));
        Expect.same("13: range in its place", 2, m.open());
        m.assign(up, 1, Expect.write(m, 0));
        m.guard(up, Expect.write(m, 53, 40, 1));
        Expect.same("13: still", 2, m.open());
        int low = m.event(1, 2, up);
        Expect.same("13: stronger", 3, m.open());
        m.assign(low, 3, Expect.write(m, 40));
        Expect.same("13: and keeping", 4, m.open());
        m.witness(low, Expect.write(m, 40));
        Expect.same("13: still", 4, m.open());
        m.guard(low, Expect.write(m, 53, 40, 1));
        Expect.same("13: not stronger any more", 3, m.open());
        m.event(1, 1, -1);
        Expect.same("13: lowering", 4, m.open());
        m.guard(2, Expect.write(m, 54, 1, 1));
        Expect.same("13: never enabled", 3, m.open());
        m.guard(low, Expect.write(m, 54, 1, 1));
        Expect.same("13: moving does not count", 2, m.open());
        Expect.same("13: and is not done", false, m.done(6, 0));
    }
}
