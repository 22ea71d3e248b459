/** Promises 1 to 4: a new object, variable, word, formula; and what formulas answer. */
public final class FormulaPromisesTest {
    public static void main(String[] args) {
        newObject();
        variable();
        variableEndsTheRun();
        word();
        formula();
        formulaThatIsNone();
        formulaLimit();
        numbers();
        truths();
        Expect.close();
    }

    private static void newObject() {
        GluedMachines m = new GluedMachines();
        Expect.same("1: shown", "-1 -1 -1 -1 -1 -1 -1", Expect.shown(m));
        Expect.same("1: values", "0 0 0 0 0 0", Expect.values(m));
        Expect.same("1: open", 0, m.open());
        Expect.same("1: torn", false, m.torn());
        Expect.same("1: right", true, m.right());
        Expect.badArgument("1: no event", () -> m.enabled(0, 0));
        Expect.badArgument("1: no formula", () -> m.variant(0));
        Expect.badState("1: no step", () -> m.back());
        Expect.badArgument("1: nothing is written", () -> m.formula());
        Expect.same("1: first word", 1, m.word(0));
        Expect.same("1: first formula", 0, m.formula());
        Expect.same("1: first event", 0, m.event(1, 1, -1));
        Expect.badState("1: no run", () -> m.enabled(0, 0));
        Expect.same("1: first invariant", 1, m.invariant(0, Expect.write(m, 53, 1, 1)));
    }

    private static void variable() {
        GluedMachines m = new GluedMachines();
        for (int v = 0; v <= 5; v++) {
            m.variable(v, 4, v % 4);
        }
        m.start();
        Expect.same("2: initial values", "0 1 2 3 0 1", Expect.values(m));
        Expect.badArgument("2: variable -1", () -> m.variable(-1, 1, 0));
        Expect.badArgument("2: variable 6", () -> m.variable(6, 1, 0));
        Expect.badArgument("2: size 0", () -> m.variable(0, 0, 0));
        Expect.badArgument("2: size 5", () -> m.variable(0, 5, 0));
        Expect.badArgument("2: least size", () -> m.variable(0, Integer.MIN_VALUE, 0));
        Expect.badArgument("2: value -1", () -> m.variable(0, 4, -1));
        Expect.badArgument("2: value of the size", () -> m.variable(0, 2, 2));
        Expect.same("2: a refused call leaves the run", "0 1 2 3 0 1", Expect.values(m));
        m.variable(0, 1, 0);
        Expect.fine("2: largest value", () -> m.variable(5, 4, 3));
    }

    private static void variableEndsTheRun() {
        GluedMachines m = new GluedMachines();
        m.variable(3, 4, 2);
        int e = m.event(1, 1, -1);
        Expect.same("2: broken", false, m.done(5, e));
        m.start();
        m.fire(e, 0);
        m.assign(e, 3, Expect.write(m, 50, 23, 1));
        m.guard(e, Expect.write(m, 53, 1, 1));
        m.event(0, 1, -1);
        m.variant(Expect.write(m, 23));
        m.invariant(1, Expect.write(m, 53, 23, 2));
        Expect.same("2: other calls leave the run", 2, m.fire(e, 0));
        Expect.same("2: its state", 3, m.value(3));
        Expect.same("2: not right", false, m.right());
        m.variable(4, 1, 0);
        Expect.same("2: the run is over", 0, m.value(3));
        Expect.badState("2: no step", () -> m.back());
        Expect.badState("2: not enabled", () -> m.enabled(e, 0));
        Expect.badState("2: not fired", () -> m.fire(e, 0));
        Expect.same("2: right initially", true, m.right());
        Expect.same("2: what is shown stays", "0 0 0 0 0 0 0", Expect.shown(m));
        m.start();
        Expect.same("2: begins anew", 2, m.value(3));
    }

    private static void word() {
        GluedMachines m = new GluedMachines();
        int written = 0;
        for (int w = -2; w <= 70; w++) {
            int word = w;
            boolean is = w >= 0 && w <= 9 || w >= 20 && w <= 25 || w == 40 || w >= 50 && w <= 58;
            if (!is) {
                Expect.badArgument("3: word " + w, () -> m.word(word));
            } else if (written < 24) {
                written++;
                Expect.same("3: word " + w, written, m.word(w));
            } else {
                Expect.badState("3: word 25 of a formula", () -> m.word(word));
            }
        }
        Expect.same("3: all places were used", 24, written);
        Expect.badArgument("3: no word, and no place", () -> m.word(26));
        Expect.badArgument("3: greatest", () -> m.word(Integer.MAX_VALUE));
        Expect.badArgument("3: least", () -> m.word(Integer.MIN_VALUE));
    }

    private static void formula() {
        GluedMachines m = new GluedMachines();
        Expect.same("4: first", 0, Expect.write(m, 7));
        Expect.same("4: nothing is written then", 1, m.word(57));
        m.word(55);
        m.word(53);
        m.word(1);
        m.word(2);
        m.word(54);
        m.word(40);
        m.word(25);
        Expect.same("4: second", 1, m.formula());
        int[] longest = new int[24];
        for (int i = 0; i < 23; i++) {
            longest[i] = 57;
        }
        longest[20] = 53;
        longest[21] = 52;
        longest[22] = 2;
        longest[23] = 3;
        for (int w : longest) {
            m.word(w);
        }
        Expect.badArgument("4: a part is missing at the end", () -> m.formula());
        longest[19] = 53;
        longest[20] = 6;
        for (int w : longest) {
            m.word(w);
        }
        Expect.same("4: 24 words", 2, m.formula());
    }

    private static void formulaThatIsNone() {
        int[][] none = {
            {}, {1, 1}, {50}, {50, 1}, {50, 1, 2, 3}, {57}, {57, 3}, {57, 53, 1}, {53, 1, 53, 1, 1},
            {54, 53, 1, 1, 1}, {55, 1, 53, 1, 1}, {55, 53, 1, 1, 1}, {56, 53, 1, 1}, {56, 1, 1},
            {58, 1, 1, 1}, {58, 53, 1, 1, 1}, {58, 53, 1, 1, 53, 1, 1, 1},
            {58, 53, 1, 1, 1, 53, 1, 1}, {50, 53, 1, 1, 1}, {51, 1, 54, 1, 1}, {52, 57, 53, 1, 1, 1},
            {40, 40}, {1, 50, 1}, {53, 1, 1, 1}, {50, 50, 1, 2}, {57, 40}, {57, 20},
        };
        for (int[] words : none) {
            GluedMachines m = new GluedMachines();
            String text = java.util.Arrays.toString(words);
            Expect.badArgument("4: " + text, () -> Expect.write(m, words));
            Expect.same("4: nothing is written after " + text, 1, m.word(3));
            Expect.same("4: no number is used by " + text, 0, m.formula());
        }
    }

    private static void formulaLimit() {
        GluedMachines m = new GluedMachines();
        for (int i = 0; i < 30; i++) {
            Expect.same("4: formula " + i, i, Expect.write(m, 54, i % 10, 2));
        }
        m.word(50);
        m.word(1);
        m.word(2);
        Expect.badState("4: 30 formulas", () -> m.formula());
        Expect.same("4: what is written stays", 4, m.word(9));
        Expect.badArgument("4: none, and 30 formulas", () -> m.formula());
        Expect.same("4: nothing is written then", 1, m.word(9));
    }

    private static void numbers() {
        int[] farthest = {52, 52, 3, 9, 50, 52, 4, 9, 1};
        int[] beyond = {52, 52, 9, 9, 52, 9, 9};
        int[] below = join(51, new int[] {0}, beyond);
        number("variable 0", 1, 20);
        number("variable 1", 2, 21);
        number("variable 2", 3, 22);
        number("variable 3", 0, 23);
        number("variable 4", 1, 24);
        number("variable 5", 2, 25);
        number("plus", 7, 50, 3, 4);
        number("minus", 1, 51, 4, 3);
        number("times", 6, 52, 3, 2);
        number("minus, below 0", 2, 50, 3, 51, 3, 4);
        number("order of parts", 5, 51, 52, 3, 4, 50, 3, 4);
        number("if", 3, 58, 53, 1, 1, 3, 4);
        number("if not", 4, 58, 53, 1, 2, 3, 4);
        number("if in if", 6, 58, 54, 2, 1, 5, 58, 54, 1, 2, 6, 7);
        number("nearest each time", 0, 51, beyond, farthest);
        number("nearest of a sum", 0, 51, join(50, farthest, new int[] {1}), farthest);
        number("within", 9, 51, farthest, new int[] {52, 52, 9, 50, 9, 2, 50, 9, 1});
        number("nearest below", 0, 50, below, farthest);
        number("nearest of a difference", 0, 50, join(51, below, new int[] {1}), farthest);
        number("nearest of a product", 0, 50, join(52, new int[] {51, 0, 2}, beyond), farthest);
        number("beyond by a product and back", 8, 50, join(51, new int[] {8}, beyond), farthest);
    }

    private static void number(String what, int due, int... words) {
        Expect.same("4: " + what, true, holds(join(53, new int[] {due}, words)));
    }

    private static void number(String what, int due, int operator, int[] first, int[] second) {
        number(what, due, join(operator, first, second));
    }

    private static int[] join(int operator, int[] first, int[] second) {
        int[] words = new int[1 + first.length + second.length];
        words[0] = operator;
        System.arraycopy(first, 0, words, 1, first.length);
        System.arraycopy(second, 0, words, 1 + first.length, second.length);
        return words;
    }

    private static void truths() {
        int[] yes = {53, 1, 1};
        int[] no = {54, 1, 1};
        Expect.same("4: equal", true, holds(53, 24, 20));
        Expect.same("4: not equal", false, holds(53, 24, 21));
        Expect.same("4: less", true, holds(54, 1, 2));
        Expect.same("4: more", false, holds(54, 2, 1));
        Expect.same("4: not less when equal", false, holds(54, 2, 2));
        Expect.same("4: both", true, holds(join(55, yes, yes)));
        Expect.same("4: both, second fails", false, holds(join(55, yes, no)));
        Expect.same("4: both, first fails", false, holds(join(55, no, yes)));
        Expect.same("4: either, none", false, holds(join(56, no, no)));
        Expect.same("4: either, second", true, holds(join(56, no, yes)));
        Expect.same("4: either, first", true, holds(join(56, yes, no)));
        Expect.same("4: either, all", true, holds(join(56, yes, yes)));
        Expect.same("4: not yes", false, holds(57, 53, 1, 1));
        Expect.same("4: not no", true, holds(57, 54, 1, 1));
    }

    private static boolean holds(int... words) {
        GluedMachines m = new GluedMachines();
        int[] initials = {1, 2, 3, 0, 1, 2};
        for (int v = 0; v <= 5; v++) {
            m.variable(v, 4, initials[v]);
        }
        m.invariant(1, Expect.write(m, words));
        return m.right();
    }
}
