/** Promises 5 to 10 at their bounds: what is taken last and refused first, and what is left. */
public final class ModelBoundaryTest {
    private static final int[] FAR = {Integer.MIN_VALUE, -1000, 1000, Integer.MAX_VALUE};
    private static final int UP = Workbench.UPPER;
    private static final int LOW = Workbench.REFINING;
    private static final int FRESH = Workbench.FRESH;

    public static void main(String[] args) {
        machinesOfEvents();
        rangesAreOneToFour();
        aRangeIsKept();
        refinedOfUpper();
        refinedOfLower();
        eventTwelve();
        noEventWhenFull();
        eventsAtFirst();
        guardsOfWhatEvents();
        guardsOfWhatFormulas();
        guardIsATruth();
        guardsVariables();
        guardInPlace();
        assignsOfWhatEvents();
        assignsToWhatVariables();
        assignsOfWhatFormulas();
        assignIsANumber();
        assignsVariables();
        assignInPlace();
        witnessesOfWhatEvents();
        witnessesOfWhatFormulas();
        witnessIsANumber();
        witnessHasAny();
        witnessInPlace();
        invariantsOfWhatMachines();
        invariantsOfWhatFormulas();
        invariantIsATruth();
        invariantWithoutParameter();
        invariantsVariables();
        invariantSix();
        noInvariantWhenFull();
        variantsOfWhatFormulas();
        variantIsANumber();
        variantWithoutParameter();
        variantHasAnyVariables();
        variantInPlace();
        Expect.close();
    }

    // Promise 5: "IllegalArgumentException: there is no such machine (0 upper, 1 lower), or range;
    // or refined is not -1 for an upper one, or neither -1 nor an upper event for a lower one;
    // IllegalStateException: there are 12."

    private static void machinesOfEvents() {
        Expect.same("5: machine 0", 3, Workbench.made().event(0, 1, -1));
        Expect.same("5: machine 1", 3, Workbench.made().event(1, 1, -1));
        Workbench.badArgument("5: machine -1", m -> m.event(-1, 1, -1));
        Workbench.badArgument("5: machine 2", m -> m.event(2, 1, -1));
        for (int far : FAR) {
            Workbench.badArgument("5: machine " + far, m -> m.event(far, 1, -1));
        }
    }

    private static void rangesAreOneToFour() {
        for (int of = 0; of <= 1; of++) {
            int machine = of;
            Expect.same("5: range 1 of " + of, 3, Workbench.made().event(machine, 1, -1));
            Expect.same("5: range 4 of " + of, 3, Workbench.made().event(machine, 4, -1));
            Workbench.badArgument("5: range 0 of " + of, m -> m.event(machine, 0, -1));
            Workbench.badArgument("5: range -1 of " + of, m -> m.event(machine, -1, -1));
            Workbench.badArgument("5: range 5 of " + of, m -> m.event(machine, 5, -1));
            for (int far : FAR) {
                Workbench.badArgument("5: range " + far, m -> m.event(machine, far, -1));
            }
        }
    }

    /** The parameters are 0 .. range - 1: in a run, and in the duties of both machines. */
    private static void aRangeIsKept() {
        for (int range = 1; range <= 4; range++) {
            GluedMachines m = new GluedMachines();
            int beyond = range;
            int up = m.event(0, range, -1);
            int low = m.event(1, range, -1);
            int two = Expect.write(m, 2);
            m.assign(up, 0, two);
            m.assign(low, 3, two);
            int last = Expect.write(m, 53, 40, range - 1);
            int behind = Expect.write(m, 53, 40, range);
            for (int e = up; e <= low; e++) {
                m.guard(e, last);
                Expect.same("5: last parameter of " + range, false, m.done(1, e));
                Expect.same("5: it is shown", range - 1, m.broken(6));
                m.guard(e, behind);
                Expect.same("5: parameter behind " + range, true, m.done(1, e));
            }
            m.start();
            Expect.fine("5: least parameter of " + range, () -> m.enabled(low, 0));
            Expect.fine("5: greatest parameter of " + range, () -> m.enabled(low, beyond - 1));
            Expect.badArgument("5: parameter " + range, () -> m.enabled(low, beyond));
            Expect.badArgument("5: parameter -1", () -> m.enabled(low, -1));
        }
    }

    private static void refinedOfUpper() {
        Workbench.badArgument("5: upper refines an upper one", m -> m.event(0, 1, UP));
        Workbench.badArgument("5: upper refines a lower one", m -> m.event(0, 1, LOW));
        Workbench.badArgument("5: upper refines what will be it", m -> m.event(0, 1, 3));
        Workbench.badArgument("5: upper refines -2", m -> m.event(0, 1, -2));
        for (int far : FAR) {
            Workbench.badArgument("5: upper refines " + far, m -> m.event(0, 1, far));
        }
    }

    private static void refinedOfLower() {
        GluedMachines m = Workbench.made();
        Expect.same("5: lower refines an upper one", 3, m.event(1, 1, UP));
        Expect.same("5: another refines the same", 4, m.event(1, 1, UP));
        Expect.same("5: a later upper one", 5, m.event(0, 1, -1));
        Expect.same("5: is refined", 6, m.event(1, 1, 5));
        Expect.fine("5: a duty of what refines", () -> m.done(4, 6));
        Workbench.badArgument("5: lower refines a lower one", x -> x.event(1, 1, LOW));
        Workbench.badArgument("5: lower refines a new one", x -> x.event(1, 1, FRESH));
        Workbench.badArgument("5: lower refines what will be it", x -> x.event(1, 1, 3));
        Workbench.badArgument("5: lower refines -2", x -> x.event(1, 1, -2));
        for (int far : FAR) {
            Workbench.badArgument("5: lower refines " + far, x -> x.event(1, 1, far));
        }
    }

    private static void eventTwelve() {
        GluedMachines m = new GluedMachines();
        for (int i = 0; i < 11; i++) {
            Expect.same("5: event " + i, i, m.event(i % 2, 1, -1));
        }
        Expect.same("5: event 11", 11, m.event(1, 1, 10));
        Expect.fine("5: the last one is there", () -> m.done(4, 11));
        Expect.badState("5: event 12", () -> m.event(1, 1, 10));
        Expect.badArgument("5: it is not there", () -> m.done(1, 12));
        Workbench.refused("5: an upper event when full", IllegalStateException.class,
                Workbench::fullOfEvents, x -> x.event(0, 1, -1));
        Workbench.refused("5: a lower event when full", IllegalStateException.class,
                Workbench::fullOfEvents, x -> x.event(1, 4, UP));
    }

    private static void noEventWhenFull() {
        Workbench.refused("5: no machine when full", IllegalArgumentException.class,
                Workbench::fullOfEvents, m -> m.event(2, 1, -1));
        Workbench.refused("5: no range when full", IllegalArgumentException.class,
                Workbench::fullOfEvents, m -> m.event(0, 0, -1));
        Workbench.refused("5: refines no event, when full", IllegalArgumentException.class,
                Workbench::fullOfEvents, m -> m.event(1, 1, 12));
    }

    // Terms: "a GUARD, a truth (at first one that always holds); and for each variable of its
    // machine an ASSIGNMENT, a number, or none (at first) .. a WITNESS, a number (at first 0)"

    private static void eventsAtFirst() {
        GluedMachines m = new GluedMachines();
        for (int v = 0; v <= 5; v++) {
            m.variable(v, 4, 3);
        }
        int up = m.event(0, 1, -1);
        int low = m.event(1, 4, up);
        m.start();
        for (int parameter = 0; parameter <= 3; parameter++) {
            Expect.same("5: at first enabled", parameter + 1, m.fire(low, parameter));
            Expect.same("5: at first no assignment", "3 3 3 3 3 3", Expect.values(m));
            Expect.same("5: at first the witness is 0", false, m.torn());
        }
        m.guard(up, Expect.write(m, 53, 40, 0));
        Expect.same("5: and above enabled with it", true, m.done(4, low));
    }

    // Promise 6: "IllegalArgumentException: there is no such event or formula, or it is no truth,
    // or it has variables that it may not have."

    private static void guardsOfWhatEvents() {
        Expect.fine("6: event 0", () -> Workbench.made().guard(0, Workbench.ALWAYS));
        Expect.fine("6: event 2", () -> Workbench.made().guard(2, Workbench.ALWAYS));
        Workbench.badArgument("6: event -1", m -> m.guard(-1, Workbench.ALWAYS));
        Workbench.badArgument("6: event 3 of 3", m -> m.guard(3, Workbench.ALWAYS));
        for (int far : FAR) {
            Workbench.badArgument("6: event " + far, m -> m.guard(far, Workbench.ALWAYS));
        }
    }

    private static void guardsOfWhatFormulas() {
        int last = Workbench.FORMULAS - 1;
        Expect.fine("6: formula 0", () -> Workbench.made().guard(FRESH, 0));
        Expect.fine("6: the last formula", () -> Workbench.made().guard(FRESH, last));
        Workbench.badArgument("6: formula -1", m -> m.guard(FRESH, -1));
        Workbench.badArgument("6: the formula behind the last", m -> m.guard(FRESH, last + 1));
        for (int far : FAR) {
            Workbench.badArgument("6: formula " + far, m -> m.guard(FRESH, far));
        }
    }

    private static void guardIsATruth() {
        Workbench.badArgument("6: a number above", m -> m.guard(UP, Workbench.UPPER_SUM));
        Workbench.badArgument("6: a number below", m -> m.guard(LOW, Workbench.LOWER_SUM));
        Workbench.badArgument("6: a parameter", m -> m.guard(FRESH, Workbench.PARAMETER));
        for (int w = 53; w <= 57; w++) {
            GluedMachines m = new GluedMachines();
            int e = m.event(0, 1, -1);
            int truth = Expect.write(m, truthOf(w));
            Expect.fine("6: a truth of " + w, () -> m.guard(e, truth));
        }
    }

    private static int[] truthOf(int operator) {
        switch (operator) {
            case 53:
            case 54:
                return new int[] {operator, 1, 2};
            case 57:
                return new int[] {operator, 53, 1, 2};
            default:
                return new int[] {operator, 53, 1, 2, 53, 1, 1};
        }
    }

    private static void guardsVariables() {
        for (int v = 0; v <= 5; v++) {
            GluedMachines m = new GluedMachines();
            int up = m.event(0, 2, -1);
            int low = m.event(1, 2, -1);
            int first = Expect.write(m, 53, 20 + v, 40);
            int deep = Expect.write(m, 56, 53, 1, 1, 57, 53, 40, 50, 0, 20 + v);
            Expect.fine("6: below with variable " + v, () -> m.guard(low, first));
            Expect.fine("6: below with variable " + v, () -> m.guard(low, deep));
            if (v < 3) {
                Expect.fine("6: above with variable " + v, () -> m.guard(up, first));
                Expect.fine("6: above with variable " + v, () -> m.guard(up, deep));
            } else {
                Expect.badArgument("6: above with variable " + v, () -> m.guard(up, first));
                Expect.badArgument("6: above with variable " + v, () -> m.guard(up, deep));
            }
        }
        Workbench.badArgument("6: lower variables", m -> m.guard(UP, Workbench.LOWER_TRUTH));
    }

    /** "The guard of an event, in place of one before". */
    private static void guardInPlace() {
        GluedMachines m = new GluedMachines();
        int e = m.event(1, 1, -1);
        int other = m.event(1, 1, -1);
        int never = Expect.write(m, 53, 1, 2);
        int always = Expect.write(m, 53, 1, 1);
        m.start();
        m.guard(e, never);
        Expect.same("6: a guard", false, m.enabled(e, 0));
        Expect.same("6: of that event alone", true, m.enabled(other, 0));
        m.guard(e, always);
        Expect.same("6: another in its place", true, m.enabled(e, 0));
        Expect.badArgument("6: refused", () -> m.guard(e, 2));
        m.guard(e, never);
        Expect.same("6: the first one again", false, m.enabled(e, 0));
        Expect.badArgument("6: refused", () -> m.guard(e, -1));
        Expect.same("6: that one stays", false, m.enabled(e, 0));
    }

    // Promise 7: "IllegalArgumentException: there is no such event or formula, or variable of its
    // machine, or the formula is no number, or has variables that it may not have."

    private static void assignsOfWhatEvents() {
        Expect.fine("7: event 0", () -> Workbench.made().assign(0, 0, Workbench.PARAMETER));
        Expect.fine("7: event 2", () -> Workbench.made().assign(2, 3, Workbench.PARAMETER));
        Workbench.badArgument("7: event -1", m -> m.assign(-1, 0, Workbench.PARAMETER));
        Workbench.badArgument("7: event 3 of 3", m -> m.assign(3, 3, Workbench.PARAMETER));
        for (int far : FAR) {
            Workbench.badArgument("7: event " + far, m -> m.assign(far, 3, Workbench.PARAMETER));
        }
    }

    private static void assignsToWhatVariables() {
        for (int of = -1; of <= 6; of++) {
            int v = of;
            if (v >= 0 && v < 3) {
                Expect.fine("7: above " + v, () -> Workbench.made().assign(UP, v, 1));
            } else {
                Workbench.badArgument("7: above " + v, m -> m.assign(UP, v, 1));
            }
            if (v >= 3 && v < 6) {
                Expect.fine("7: below " + v, () -> Workbench.made().assign(LOW, v, 1));
            } else {
                Workbench.badArgument("7: below " + v, m -> m.assign(LOW, v, 1));
            }
        }
        for (int far : FAR) {
            Workbench.badArgument("7: above " + far, m -> m.assign(UP, far, 1));
            Workbench.badArgument("7: below " + far, m -> m.assign(LOW, far, 1));
        }
    }

    private static void assignsOfWhatFormulas() {
        GluedMachines m = new GluedMachines();
        int e = m.event(1, 1, -1);
        Expect.badArgument("7: formula 0 of none", () -> m.assign(e, 3, 0));
        Expect.write(m, 0);
        Expect.fine("7: formula 0 of one", () -> m.assign(e, 3, 0));
        Expect.badArgument("7: formula 1 of one", () -> m.assign(e, 3, 1));
        int behind = Workbench.FORMULAS;
        Workbench.badArgument("7: formula -1", x -> x.assign(FRESH, 3, -1));
        Workbench.badArgument("7: the formula behind the last", x -> x.assign(FRESH, 3, behind));
        for (int far : FAR) {
            Workbench.badArgument("7: formula " + far, x -> x.assign(FRESH, 3, far));
        }
    }

    private static void assignIsANumber() {
        Workbench.badArgument("7: a truth above", m -> m.assign(UP, 0, Workbench.UPPER_TRUTH));
        Workbench.badArgument("7: a truth below", m -> m.assign(LOW, 3, Workbench.LOWER_TRUTH));
        int[][] numbers = {{0}, {9}, {20}, {40}, {50, 1, 2}, {51, 1, 2}, {52, 1, 2},
            {58, 53, 1, 1, 2, 3}};
        for (int[] words : numbers) {
            GluedMachines m = new GluedMachines();
            int e = m.event(0, 1, -1);
            int number = Expect.write(m, words);
            Expect.fine("7: a number of " + words[0], () -> m.assign(e, 2, number));
        }
        for (int w = 53; w <= 57; w++) {
            GluedMachines m = new GluedMachines();
            int e = m.event(0, 1, -1);
            int truth = Expect.write(m, truthOf(w));
            Expect.badArgument("7: a truth of " + w, () -> m.assign(e, 2, truth));
        }
    }

    private static void assignsVariables() {
        for (int v = 0; v <= 5; v++) {
            GluedMachines m = new GluedMachines();
            int up = m.event(0, 1, -1);
            int low = m.event(1, 1, -1);
            int first = Expect.write(m, 20 + v);
            int deep = Expect.write(m, 58, 53, 40, 20 + v, 1, 2);
            Expect.fine("7: below with variable " + v, () -> m.assign(low, 5, first));
            Expect.fine("7: below with variable " + v, () -> m.assign(low, 5, deep));
            if (v < 3) {
                Expect.fine("7: above with variable " + v, () -> m.assign(up, 2, first));
                Expect.fine("7: above with variable " + v, () -> m.assign(up, 2, deep));
            } else {
                Expect.badArgument("7: above with variable " + v, () -> m.assign(up, 2, first));
                Expect.badArgument("7: above with variable " + v, () -> m.assign(up, 2, deep));
            }
        }
        Workbench.badArgument("7: lower variables", m -> m.assign(UP, 0, Workbench.LOWER_SUM));
    }

    private static void assignInPlace() {
        GluedMachines m = new GluedMachines();
        m.variable(3, 4, 0);
        m.variable(4, 4, 0);
        int e = m.event(1, 1, -1);
        m.assign(e, 3, Expect.write(m, 1));
        m.assign(e, 4, Expect.write(m, 2));
        m.assign(e, 3, Expect.write(m, 3));
        Expect.badArgument("7: refused", () -> m.assign(e, 4, 3));
        m.start();
        m.fire(e, 0);
        Expect.same("7: one in place, one left", "0 0 0 3 2 0", Expect.values(m));
    }

    // Promise 8: "IllegalArgumentException: there is no such event or formula, or it does not
    // refine one, or the formula is no number."

    private static void witnessesOfWhatEvents() {
        Expect.fine("8: one that refines", () -> Workbench.made().witness(LOW, 1));
        Workbench.badArgument("8: an upper event", m -> m.witness(UP, 1));
        Workbench.badArgument("8: a new event", m -> m.witness(FRESH, 1));
        Workbench.badArgument("8: event -1", m -> m.witness(-1, 1));
        Workbench.badArgument("8: event 3 of 3", m -> m.witness(3, 1));
        for (int far : FAR) {
            Workbench.badArgument("8: event " + far, m -> m.witness(far, 1));
        }
    }

    private static void witnessesOfWhatFormulas() {
        GluedMachines m = new GluedMachines();
        int e = m.event(1, 1, m.event(0, 1, -1));
        Expect.badArgument("8: formula 0 of none", () -> m.witness(e, 0));
        Expect.write(m, 0);
        Expect.fine("8: formula 0 of one", () -> m.witness(e, 0));
        Expect.badArgument("8: formula 1 of one", () -> m.witness(e, 1));
        Workbench.badArgument("8: formula -1", x -> x.witness(LOW, -1));
        int behind = Workbench.FORMULAS;
        Workbench.badArgument("8: formula behind the last", x -> x.witness(LOW, behind));
        for (int far : FAR) {
            Workbench.badArgument("8: formula " + far, x -> x.witness(LOW, far));
        }
    }

    private static void witnessIsANumber() {
        Workbench.badArgument("8: a truth", m -> m.witness(LOW, Workbench.ALWAYS));
        Workbench.badArgument("8: another truth", m -> m.witness(LOW, Workbench.PARAMETER_TRUTH));
    }

    /** Terms: "witnesses, and all of lower events, may have any". */
    private static void witnessHasAny() {
        int[] any = {20, 21, 22, 23, 24, 25, 40};
        for (int w : any) {
            GluedMachines m = new GluedMachines();
            int e = m.event(1, 2, m.event(0, 1, -1));
            int number = Expect.write(m, w);
            Expect.fine("8: a witness with " + w, () -> m.witness(e, number));
        }
    }

    private static void witnessInPlace() {
        GluedMachines m = new GluedMachines();
        m.variable(0, 4, 0);
        int up = m.event(0, 4, -1);
        int e = m.event(1, 1, up);
        int other = m.event(1, 1, up);
        m.assign(up, 0, Expect.write(m, 40));
        m.witness(e, Expect.write(m, 2));
        m.witness(e, Expect.write(m, 3));
        Expect.badArgument("8: refused", () -> m.witness(e, 3));
        m.start();
        m.fire(e, 0);
        Expect.same("8: the later one", 3, m.value(0));
        m.fire(other, 0);
        Expect.same("8: of that event alone", 0, m.value(0));
    }

    // Promise 9: "IllegalArgumentException: there is no such machine or formula, or it is no truth,
    // or has the parameter, or variables that it may not have; IllegalStateException: there are 6."

    private static void invariantsOfWhatMachines() {
        Expect.same("9: machine 0", 2, Workbench.made().invariant(0, Workbench.ALWAYS));
        Expect.same("9: machine 1", 2, Workbench.made().invariant(1, Workbench.ALWAYS));
        Workbench.badArgument("9: machine -1", m -> m.invariant(-1, Workbench.ALWAYS));
        Workbench.badArgument("9: machine 2", m -> m.invariant(2, Workbench.ALWAYS));
        for (int far : FAR) {
            Workbench.badArgument("9: machine " + far, m -> m.invariant(far, Workbench.ALWAYS));
        }
    }

    private static void invariantsOfWhatFormulas() {
        for (int of = 0; of <= 1; of++) {
            int machine = of;
            GluedMachines m = new GluedMachines();
            Expect.badArgument("9: formula 0 of none", () -> m.invariant(machine, 0));
            Expect.write(m, 53, 1, 1);
            Expect.same("9: formula 0 of one", 1, m.invariant(machine, 0));
            Expect.badArgument("9: formula 1 of one", () -> m.invariant(machine, 1));
            Workbench.badArgument("9: formula -1", x -> x.invariant(machine, -1));
            for (int far : FAR) {
                Workbench.badArgument("9: formula " + far, x -> x.invariant(machine, far));
            }
        }
    }

    private static void invariantIsATruth() {
        int number = Workbench.LOWER_NUMBER;
        Workbench.badArgument("9: a number above", m -> m.invariant(0, Workbench.PARAMETER));
        Workbench.badArgument("9: a number below", m -> m.invariant(1, number));
    }

    private static void invariantWithoutParameter() {
        int parameter = Workbench.PARAMETER_TRUTH;
        Workbench.badArgument("9: the parameter above", m -> m.invariant(0, parameter));
        Workbench.badArgument("9: the parameter below", m -> m.invariant(1, parameter));
        GluedMachines m = new GluedMachines();
        int deep = Expect.write(m, 57, 55, 53, 1, 1, 54, 20, 50, 1, 40);
        Expect.badArgument("9: the parameter deep in it above", () -> m.invariant(0, deep));
        Expect.badArgument("9: the parameter deep in it below", () -> m.invariant(1, deep));
    }

    private static void invariantsVariables() {
        for (int v = 0; v <= 5; v++) {
            GluedMachines m = new GluedMachines();
            int truth = Expect.write(m, 53, 0, 20 + v);
            Expect.same("9: below with variable " + v, 1, m.invariant(1, truth));
            if (v < 3) {
                Expect.same("9: above with variable " + v, 1, m.invariant(0, truth));
            } else {
                Expect.badArgument("9: above with variable " + v, () -> m.invariant(0, truth));
            }
        }
        Workbench.badArgument("9: lower variables", m -> m.invariant(0, Workbench.LOWER_TRUTH));
    }

    private static void invariantSix() {
        for (int of = 0; of <= 1; of++) {
            int machine = of;
            GluedMachines m = new GluedMachines();
            int always = Expect.write(m, 53, 1, 1);
            int never = Expect.write(m, 53, 1, 2);
            for (int i = 1; i <= 5; i++) {
                Expect.same("9: invariant " + i, i, m.invariant(machine, always));
            }
            Expect.same("9: right with 5", true, m.right());
            Expect.same("9: invariant 6", 6, m.invariant(machine, never));
            Expect.same("9: the sixth counts", false, m.right());
            Expect.badState("9: invariant 7", () -> m.invariant(machine, always));
            Expect.same("9: the other machine has none", 1, m.invariant(1 - machine, always));
            Workbench.refused("9: when full", IllegalStateException.class,
                    Workbench::fullOfInvariants, x -> x.invariant(machine, Workbench.ALWAYS));
        }
    }

    private static void noInvariantWhenFull() {
        Workbench.refused("9: a number when full", IllegalArgumentException.class,
                Workbench::fullOfInvariants, m -> m.invariant(1, Workbench.PARAMETER));
        Workbench.refused("9: no formula when full", IllegalArgumentException.class,
                Workbench::fullOfInvariants, m -> m.invariant(0, -1));
        Workbench.refused("9: no machine when full", IllegalArgumentException.class,
                Workbench::fullOfInvariants, m -> m.invariant(2, Workbench.ALWAYS));
    }

    // Promise 10: "IllegalArgumentException: there is no such formula, or it is no number, or has
    // the parameter."

    private static void variantsOfWhatFormulas() {
        GluedMachines m = new GluedMachines();
        Expect.badArgument("10: formula 0 of none", () -> m.variant(0));
        Expect.write(m, 0);
        Expect.fine("10: formula 0 of one", () -> m.variant(0));
        Expect.badArgument("10: formula 1 of one", () -> m.variant(1));
        Workbench.badArgument("10: formula -1", x -> x.variant(-1));
        Workbench.badArgument("10: formula behind the last", x -> x.variant(Workbench.FORMULAS));
        for (int far : FAR) {
            Workbench.badArgument("10: formula " + far, x -> x.variant(far));
        }
    }

    private static void variantIsANumber() {
        Workbench.badArgument("10: a truth", m -> m.variant(Workbench.ALWAYS));
        Workbench.badArgument("10: a lower truth", m -> m.variant(Workbench.LOWER_TRUTH));
    }

    private static void variantWithoutParameter() {
        Workbench.badArgument("10: the parameter", m -> m.variant(Workbench.PARAMETER));
        Workbench.badArgument("10: the parameter in a sum", m -> m.variant(Workbench.LOWER_SUM));
        GluedMachines m = new GluedMachines();
        int deep = Expect.write(m, 58, 53, 20, 40, 1, 2);
        Expect.badArgument("10: the parameter deep in it", () -> m.variant(deep));
    }

    private static void variantHasAnyVariables() {
        for (int v = 0; v <= 5; v++) {
            GluedMachines m = new GluedMachines();
            int number = Expect.write(m, 20 + v);
            Expect.fine("10: with variable " + v, () -> m.variant(number));
        }
    }

    private static void variantInPlace() {
        GluedMachines m = new GluedMachines();
        m.variable(3, 2, 0);
        int e = m.event(1, 1, -1);
        m.guard(e, Expect.write(m, 53, 23, 1));
        m.assign(e, 3, Expect.write(m, 0));
        Expect.same("10: at first 0", false, m.done(5, e));
        m.variant(Expect.write(m, 23));
        Expect.same("10: one that is lowered", true, m.done(5, e));
        Expect.badArgument("10: refused", () -> m.variant(0));
        Expect.same("10: it stays", true, m.done(5, e));
        m.variant(Expect.write(m, 5));
        Expect.same("10: one in its place", false, m.done(5, e));
    }
}
