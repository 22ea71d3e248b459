import java.util.Arrays;

/** Promises 1 to 4 at their bounds: what is taken last and refused first, and what is left then. */
public final class FormulaBoundaryTest {
    private static final int[] FAR = {Integer.MIN_VALUE, -1000, 1000, Integer.MAX_VALUE};
    private static final int[] TRUTH = {53, 1, 1};
    private static final int[] NUMBER = {7};

    public static void main(String[] args) {
        noFormulasAtFirst();
        noEventsAtFirst();
        noInvariantsAtFirst();
        nothingWrittenAtFirst();
        noRunAtFirst();
        sizesAreAtFirstOne();
        initialsAreAtFirstZero();
        objectsAreTheirOwn();
        variablesAreZeroToFive();
        sizesAreOneToFour();
        initialIsWithinTheSize();
        greaterInitialGoesWithTheSize();
        aSizeIsKept();
        variableEndsTheRun();
        otherCallsLeaveTheRun();
        shownStaysAtVariable();
        wordsAndTheirNeighbours();
        wordTwentyFour();
        refusedWordIsNotWritten();
        noWordWhenFull();
        shortestFormulas();
        longestFormulas();
        partsOfEachOperator();
        emptyFormula();
        wordsAfterTheEnd();
        formulaThirty();
        writtenStaysWhenFull();
        noFormulaWhenFull();
        Expect.close();
    }

    // Promise 1: "No formulas, events, invariants; nothing is written; a run that has not begun."

    private static void noFormulasAtFirst() {
        GluedMachines m = new GluedMachines();
        Expect.badArgument("1: formula 0 of none", () -> m.variant(0));
        Expect.same("1: the first formula", 0, Expect.write(m, 1));
        Expect.fine("1: formula 0 of one", () -> m.variant(0));
        Expect.badArgument("1: formula 1 of one", () -> m.variant(1));
    }

    private static void noEventsAtFirst() {
        GluedMachines m = new GluedMachines();
        Expect.badArgument("1: event 0 of none", () -> m.done(1, 0));
        Expect.same("1: no lower event moves", false, m.done(6, 0));
        Expect.same("1: the first event", 0, m.event(0, 1, -1));
        Expect.fine("1: event 0 of one", () -> m.done(1, 0));
        Expect.badArgument("1: event 1 of one", () -> m.done(1, 1));
    }

    private static void noInvariantsAtFirst() {
        GluedMachines m = new GluedMachines();
        Expect.same("1: right without invariants", true, m.right());
        Expect.same("1: beginning without invariants", true, m.done(0, 0));
        int truth = Expect.write(m, TRUTH);
        Expect.same("1: the first upper invariant", 1, m.invariant(0, truth));
        Expect.same("1: the first lower invariant", 1, m.invariant(1, truth));
    }

    private static void nothingWrittenAtFirst() {
        Expect.badArgument("1: a formula of nothing", () -> new GluedMachines().formula());
        Expect.same("1: the first word", 1, new GluedMachines().word(9));
    }

    private static void noRunAtFirst() {
        GluedMachines m = new GluedMachines();
        int e = m.event(1, 1, -1);
        Expect.badState("1: enabled without a run", () -> m.enabled(e, 0));
        Expect.badState("1: fire without a run", () -> m.fire(e, 0));
        Expect.badState("1: back without a run", () -> m.back());
        Expect.same("1: torn without a run", false, m.torn());
        Expect.same("1: values without a run", "0 0 0 0 0 0", Expect.values(m));
        Expect.same("1: nothing is shown", "-1 -1 -1 -1 -1 -1 -1", Expect.shown(m));
    }

    // Terms: "Each has a SIZE 1 .. 4 (at first 1), being 0 .. size - 1, and an INITIAL value (at
    // first 0)."

    private static void sizesAreAtFirstOne() {
        for (int v = 0; v <= 5; v++) {
            GluedMachines m = new GluedMachines();
            Expect.same("size at first of " + v, "false true false", whereItLeads(m, v, 1));
        }
    }

    private static void initialsAreAtFirstZero() {
        GluedMachines m = new GluedMachines();
        m.start();
        Expect.same("initial values at first", "0 0 0 0 0 0", Expect.values(m));
        m.variable(5, 4, 3);
        m.start();
        Expect.same("initial values of the others", "0 0 0 0 0 3", Expect.values(m));
    }

    private static void objectsAreTheirOwn() {
        GluedMachines one = Workbench.made();
        GluedMachines other = new GluedMachines();
        Expect.same("1: formula of another object", 0, Expect.write(other, TRUTH));
        Expect.same("1: event of another object", 0, other.event(1, 1, -1));
        Expect.same("1: invariant of another object", 1, other.invariant(1, 0));
        Expect.badState("1: run of another object", () -> other.enabled(0, 0));
        Expect.same("1: shown of another object", -1, other.broken(0));
        Expect.same("1: the first one goes on", 3, one.word(2));
        Expect.same("1: the first one's run", 2, one.value(3));
    }

    /** Whether an event may lead a variable to -1, to its greatest value and to its size. */
    private static String whereItLeads(GluedMachines m, int v, int size) {
        int up = m.event(0, 1, -1);
        int low = m.event(1, 1, up);
        int[] targets = {-1, size - 1, size};
        StringBuilder text = new StringBuilder();
        m.start();
        for (int target : targets) {
            m.assign(v < 3 ? up : low, v, Expect.write(m, 51, target + 1, 1));
            text.append(text.length() == 0 ? "" : " ").append(m.enabled(low, 0));
        }
        return text.toString();
    }

    // Promise 2: "IllegalArgumentException: there is no such variable, or the size is not 1 .. 4,
    // or the value not within it."

    private static void variablesAreZeroToFive() {
        for (int v = 0; v <= 5; v++) {
            int taken = v;
            Expect.fine("2: variable " + v, () -> Workbench.made().variable(taken, 4, 3));
        }
        Workbench.badArgument("2: variable -1", m -> m.variable(-1, 4, 3));
        Workbench.badArgument("2: variable 6", m -> m.variable(6, 4, 3));
        for (int far : FAR) {
            Workbench.badArgument("2: variable " + far, m -> m.variable(far, 4, 3));
        }
    }

    private static void sizesAreOneToFour() {
        for (int v = 0; v <= 5; v++) {
            int of = v;
            Expect.fine("2: size 1 of " + v, () -> Workbench.made().variable(of, 1, 0));
            Expect.fine("2: size 4 of " + v, () -> Workbench.made().variable(of, 4, 0));
            Workbench.badArgument("2: size 0 of " + v, m -> m.variable(of, 0, 0));
            Workbench.badArgument("2: size -1 of " + v, m -> m.variable(of, -1, 0));
            Workbench.badArgument("2: size 5 of " + v, m -> m.variable(of, 5, 0));
            for (int far : FAR) {
                Workbench.badArgument("2: size " + far, m -> m.variable(of, far, 0));
            }
        }
    }

    private static void initialIsWithinTheSize() {
        for (int s = 1; s <= 4; s++) {
            int size = s;
            GluedMachines m = new GluedMachines();
            m.variable(4, size, size - 1);
            m.start();
            Expect.same("2: greatest value of size " + size, size - 1, m.value(4));
            m.variable(4, size, 0);
            m.start();
            Expect.same("2: least value of size " + size, 0, m.value(4));
            Workbench.badArgument("2: value of size " + size, x -> x.variable(0, size, size));
            Workbench.badArgument("2: value -1, size " + size, x -> x.variable(3, size, -1));
            for (int far : FAR) {
                Workbench.badArgument("2: value " + far, x -> x.variable(5, size, far));
            }
        }
        Workbench.badArgument("2: a value in no size", m -> m.variable(0, -2, -3));
    }

    private static void greaterInitialGoesWithTheSize() {
        GluedMachines m = new GluedMachines();
        m.variable(1, 4, 3);
        Expect.badArgument("2: the value before in a lesser size", () -> m.variable(1, 3, 3));
        m.start();
        Expect.same("2: as before", 3, m.value(1));
        m.variable(1, 3, 2);
        m.start();
        Expect.same("2: both are lesser", 2, m.value(1));
    }

    private static void aSizeIsKept() {
        for (int v = 0; v <= 5; v++) {
            for (int size = 1; size <= 4; size++) {
                GluedMachines m = new GluedMachines();
                m.variable(v, size, 0);
                Expect.same("size " + size + " of " + v, "false true false",
                        whereItLeads(m, v, size));
            }
        }
    }

    // Promise 2: "The run is over (other calls that tell of the model leave it; what is shown
    // stays)."

    private static void variableEndsTheRun() {
        GluedMachines m = Workbench.made();
        m.variable(5, 3, 2);
        Expect.same("2: values when over", "0 0 0 0 0 0", Expect.values(m));
        Expect.badState("2: enabled when over", () -> m.enabled(Workbench.FRESH, 0));
        Expect.badState("2: fire when over", () -> m.fire(Workbench.FRESH, 0));
        Expect.badState("2: back when over", () -> m.back());
        GluedMachines torn = Workbench.torn();
        Expect.same("2: torn before", true, torn.torn());
        torn.variable(0, 4, 1);
        Expect.same("2: torn when over", false, torn.torn());
    }

    private static void otherCallsLeaveTheRun() {
        GluedMachines m = Workbench.made();
        m.word(9);
        m.formula();
        m.event(0, 1, -1);
        m.event(1, 1, 0);
        m.guard(Workbench.FRESH, Workbench.ALWAYS);
        m.assign(Workbench.REFINING, 4, Workbench.PARAMETER);
        m.witness(Workbench.REFINING, Workbench.PARAMETER);
        m.invariant(0, Workbench.ALWAYS);
        m.invariant(1, Workbench.ALWAYS);
        m.variant(Workbench.LOWER_NUMBER);
        Expect.same("2: the run is left", "2 1 0 2 0 2", Expect.values(m));
        Expect.same("2: with its steps", 2, m.fire(Workbench.FRESH, 0));
    }

    private static void shownStaysAtVariable() {
        GluedMachines m = Workbench.made();
        String before = Expect.shown(m);
        m.variable(0, 1, 0);
        m.variable(3, 1, 0);
        Expect.same("2: what is shown stays", before, Expect.shown(m));
    }

    // Promise 3: "One more word of a formula: how many are written. IllegalArgumentException: it is
    // none; IllegalStateException: there are 24."

    private static void wordsAndTheirNeighbours() {
        int[] least = {0, 20, 40, 50};
        int[] greatest = {9, 25, 40, 58};
        for (int i = 0; i < least.length; i++) {
            int below = least[i] - 1;
            int above = greatest[i] + 1;
            Expect.same("3: word " + least[i], 3, Workbench.made().word(least[i]));
            Expect.same("3: word " + greatest[i], 3, Workbench.made().word(greatest[i]));
            Workbench.badArgument("3: word " + below, m -> m.word(below));
            Workbench.badArgument("3: word " + above, m -> m.word(above));
        }
        for (int far : FAR) {
            Workbench.badArgument("3: word " + far, m -> m.word(far));
        }
    }

    private static void wordTwentyFour() {
        GluedMachines m = new GluedMachines();
        for (int i = 1; i <= 24; i++) {
            Expect.same("3: word number " + i, i, m.word(57));
        }
        Expect.badState("3: word number 25", () -> m.word(57));
        Workbench.refused("3: a word behind 24", IllegalStateException.class,
                Workbench::fullOfWords, x -> x.word(0));
        Expect.badArgument("3: these 24 are no formula", () -> m.formula());
        Expect.same("3: the first of a next formula", 1, m.word(0));
    }

    private static void refusedWordIsNotWritten() {
        GluedMachines m = new GluedMachines();
        m.word(51);
        m.word(9);
        Expect.badArgument("3: no word", () -> m.word(10));
        Expect.same("3: the next one", 3, m.word(2));
        Expect.same("3: a formula without it", 0, m.formula());
    }

    private static void noWordWhenFull() {
        Workbench.refused("3: none, behind 24", IllegalArgumentException.class,
                Workbench::fullOfWords, m -> m.word(59));
    }

    // Promise 4: "What is written is a formula: its number; nothing is written then.
    // IllegalArgumentException: it is none (nothing is written any more, too)".

    private static void shortestFormulas() {
        int[] single = {0, 9, 20, 25, 40};
        for (int w : single) {
            Expect.same("4: formula " + w, 0, Expect.write(new GluedMachines(), w));
        }
        for (int w = 50; w <= 58; w++) {
            isNone("an operator alone", w);
        }
    }

    private static void longestFormulas() {
        int[] sums = new int[23];
        Arrays.fill(sums, 0, 11, 50);
        Arrays.fill(sums, 11, 23, 9);
        isOne("23 words", sums);
        int[] nots = new int[24];
        Arrays.fill(nots, 0, 21, 57);
        System.arraycopy(TRUTH, 0, nots, 21, 3);
        isOne("24 words", nots);
        int[] open = new int[24];
        Arrays.fill(open, 57);
        isNone("24 words without an end", open);
        int[] much = Arrays.copyOf(sums, 24);
        isNone("23 words and one more", much);
        int[] ifs = {58, 57, 54, 1, 2, 3, 58, 54, 2, 1, 3, 58, 53, 1, 2, 4, 58, 53, 1, 1, 5, 50, 2,
            3};
        isOne("24 words with if", ifs);
    }

    private static void partsOfEachOperator() {
        String[] parts = {"nn", "nn", "nn", "nn", "nn", "tt", "tt", "t", "tnn"};
        for (int w = 50; w <= 58; w++) {
            String due = parts[w - 50];
            isOne("operator " + w, written(w, due));
            isNone("operator " + w + " with a part less",
                    written(w, due.substring(0, due.length() - 1)));
            isNone("operator " + w + " with a number more", written(w, due + "n"));
            isNone("operator " + w + " with a truth more", written(w, due + "t"));
            for (int i = 0; i < due.length(); i++) {
                char other = due.charAt(i) == 'n' ? 't' : 'n';
                String turned = due.substring(0, i) + other + due.substring(i + 1);
                isNone("operator " + w + " with " + turned, written(w, turned));
            }
        }
    }

    private static int[] written(int operator, String parts) {
        int[] words = {operator};
        for (char part : parts.toCharArray()) {
            words = join(words, part == 't' ? TRUTH : NUMBER);
        }
        return words;
    }

    private static int[] join(int[] first, int[] second) {
        int[] words = Arrays.copyOf(first, first.length + second.length);
        System.arraycopy(second, 0, words, first.length, second.length);
        return words;
    }

    private static void isOne(String what, int[] words) {
        GluedMachines m = new GluedMachines();
        Expect.same("4: " + what, 0, Expect.write(m, words));
        Expect.same("4: " + what + ", nothing is written then", 1, m.word(3));
        Expect.same("4: " + what + ", the next number", 1, m.formula());
    }

    private static void isNone(String what, int... words) {
        GluedMachines m = new GluedMachines();
        Expect.badArgument("4: " + what, () -> Expect.write(m, words));
        Expect.badArgument("4: " + what + ", no number is used", () -> m.variant(0));
        Expect.same("4: " + what + ", nothing is written any more", 1, m.word(3));
        Expect.same("4: " + what + ", the next number", 0, m.formula());
    }

    private static void emptyFormula() {
        isNone("nothing");
        GluedMachines m = new GluedMachines();
        Expect.write(m, 1);
        Expect.badArgument("4: twice", () -> m.formula());
        Expect.badArgument("4: thrice", () -> m.formula());
        Expect.same("4: the next number", 1, Expect.write(m, 1));
    }

    private static void wordsAfterTheEnd() {
        isNone("two numbers", 1, 2);
        isNone("a truth behind a truth", 53, 1, 1, 53, 1, 1);
        isNone("an operator behind a number", 1, 50);
        isNone("a whole sum behind a number", 1, 50, 1, 2);
    }

    // Promise 4: "IllegalStateException: there are 30 formulas (what is written stays)."

    private static void formulaThirty() {
        GluedMachines m = new GluedMachines();
        for (int i = 0; i < 30; i++) {
            Expect.same("4: formula " + i, i, Expect.write(m, i % 10));
        }
        Expect.fine("4: the last one is there", () -> m.variant(29));
        m.word(0);
        Expect.badState("4: one more", () -> m.formula());
        Expect.badArgument("4: it is not there", () -> m.variant(30));
    }

    private static void writtenStaysWhenFull() {
        GluedMachines m = Workbench.fullOfFormulas();
        Expect.same("4: a third word", 3, m.word(2));
        Expect.badState("4: full", () -> m.formula());
        Expect.badState("4: still full", () -> m.formula());
        Expect.same("4: what is written stays", 4, m.word(9));
        Workbench.refused("4: a formula when full", IllegalStateException.class,
                FormulaBoundaryTest::fullWithOneWritten, GluedMachines::formula);
    }

    private static GluedMachines fullWithOneWritten() {
        GluedMachines m = Workbench.fullOfFormulas();
        m.word(3);
        return m;
    }

    private static void noFormulaWhenFull() {
        GluedMachines m = Workbench.fullOfFormulas();
        Expect.badArgument("4: none, when full", () -> m.formula());
        Expect.badArgument("4: nothing, when full", () -> m.formula());
        Expect.same("4: nothing is written any more", 1, m.word(9));
        Expect.badState("4: one, when full", () -> m.formula());
    }
}
