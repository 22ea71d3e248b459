import java.util.Arrays;

/**
 * The section Terms on formulas at its bounds: the results of -999 .. 999, LESS and EQUAL beside
 * equal numbers, IF and the truths. A number is looked at as a witness, which the upper event gets
 * as its parameter even where it is beyond its range.
 */
public final class ResultBoundaryTest {
    private static final int[] TEN = {50, 9, 1};
    private static final int[] HUNDRED = of(52, TEN, TEN);
    private static final int[] MOST = of(52, of(52, n(3), n(9)), of(50, of(52, n(4), n(9)), n(1)));
    private static final int[] LEAST = of(51, n(0), MOST);
    private static final int[] NEXT_TO_MOST = of(51, MOST, n(1));
    private static final int[] NEXT_TO_LEAST = of(50, LEAST, n(1));

    public static void main(String[] args) {
        numbersAreThemselves();
        variablesAreTheirValues();
        sumsAtTheBounds();
        differencesAtTheBounds();
        productsAtTheBounds();
        eachResultIsTheNearest();
        lessBesideEqual();
        equalBesideUnequal();
        boundsCompared();
        ifTakesOne();
        truthsOfTruths();
        longestFormulasAnswer();
        Expect.close();
    }

    private static int[] n(int number) {
        return new int[] {number};
    }

    private static int[] of(int operator, int[]... parts) {
        int length = 1;
        for (int[] part : parts) {
            length += part.length;
        }
        int[] words = new int[length];
        words[0] = operator;
        int place = 1;
        for (int[] part : parts) {
            System.arraycopy(part, 0, words, place, part.length);
            place += part.length;
        }
        return words;
    }

    /** Whether the words are the number that the other words are. */
    private static boolean areSame(int[] words, int[] due) {
        GluedMachines m = new GluedMachines();
        m.variable(0, 2, 0);
        int up = m.event(0, 1, -1);
        int low = m.event(1, 1, up);
        m.assign(up, 0, Expect.write(m, of(58, of(53, n(40), due), n(1), n(0))));
        m.witness(low, Expect.write(m, words));
        m.start();
        m.fire(low, 0);
        return m.value(0) == 1;
    }

    private static void same(String what, int[] due, int[] words) {
        Expect.same(what, true, areSame(words, due));
    }

    private static void other(String what, int[] notDue, int[] words) {
        Expect.same(what, false, areSame(words, notDue));
    }

    private static boolean holds(int... words) {
        GluedMachines m = new GluedMachines();
        m.invariant(1, Expect.write(m, words));
        return m.right();
    }

    // "0 .. 9 numbers; 20 .. 25 variables 0 .. 5; 40 PARAMETER"

    private static void numbersAreThemselves() {
        for (int number = 0; number < 9; number++) {
            same("number " + number, n(number + 1), of(50, n(number), n(1)));
            other("number " + number + " and the next", n(number + 1), n(number));
        }
    }

    private static void variablesAreTheirValues() {
        for (int v = 0; v <= 5; v++) {
            for (int value = 0; value <= 3; value++) {
                GluedMachines m = new GluedMachines();
                m.variable(v, 4, value);
                m.invariant(1, Expect.write(m, 53, 20 + v, value));
                Expect.same("variable " + v + " of " + value, true, m.right());
            }
        }
        for (int parameter = 0; parameter <= 3; parameter++) {
            GluedMachines m = new GluedMachines();
            int e = m.event(1, 4, -1);
            m.guard(e, Expect.write(m, 53, 40, parameter));
            m.start();
            for (int p = 0; p <= 3; p++) {
                Expect.same("parameter " + p + " of " + parameter, p == parameter, m.enabled(e, p));
            }
        }
    }

    // "50 PLUS, 51 MINUS, 52 TIMES (each result is -999 .. 999, being the nearest of these if it is
    // beyond)"

    private static void sumsAtTheBounds() {
        other("998 is not 999", MOST, NEXT_TO_MOST);
        same("998 + 1", MOST, of(50, NEXT_TO_MOST, n(1)));
        same("999 + 0", MOST, of(50, MOST, n(0)));
        same("999 + 1", MOST, of(50, MOST, n(1)));
        same("999 + 999", MOST, of(50, MOST, MOST));
        other("-998 is not -999", LEAST, NEXT_TO_LEAST);
        same("-999 + -999", LEAST, of(50, LEAST, LEAST));
        same("-999 + 999", n(0), of(50, LEAST, MOST));
    }

    private static void differencesAtTheBounds() {
        same("-998 - 1", LEAST, of(51, NEXT_TO_LEAST, n(1)));
        same("-999 - 0", LEAST, of(51, LEAST, n(0)));
        same("-999 - 1", LEAST, of(51, LEAST, n(1)));
        same("-999 - 999", LEAST, of(51, LEAST, MOST));
        same("999 - -999", MOST, of(51, MOST, LEAST));
        same("0 - -999", MOST, of(51, n(0), LEAST));
        same("1 - -998", MOST, of(51, n(1), NEXT_TO_LEAST));
        same("1 - -999", MOST, of(51, n(1), LEAST));
    }

    private static void productsAtTheBounds() {
        int[] half = of(51, of(52, n(5), HUNDRED), n(1));
        same("2 * 499", NEXT_TO_MOST, of(52, n(2), half));
        same("9 * 110 + 9", MOST, of(50, of(52, n(9), of(52, TEN, of(50, TEN, n(1)))), n(9)));
        same("10 * 100", MOST, of(52, TEN, HUNDRED));
        same("100 * 100", MOST, of(52, HUNDRED, HUNDRED));
        same("999 * 999", MOST, of(52, MOST, MOST));
        same("-10 * 100", LEAST, of(52, of(51, n(0), TEN), HUNDRED));
        same("-2 * 499", NEXT_TO_LEAST, of(52, of(51, n(0), n(2)), half));
        same("-1 * 999", LEAST, of(52, of(51, n(0), n(1)), MOST));
        same("-999 * 999", LEAST, of(52, LEAST, MOST));
        same("-999 * -999", MOST, of(52, LEAST, LEAST));
        same("-999 * 0", n(0), of(52, LEAST, n(0)));
    }

    private static void eachResultIsTheNearest() {
        same("999 + 9 - 9", of(51, MOST, n(9)), of(51, of(50, MOST, n(9)), n(9)));
        same("-999 - 9 + 9", of(50, LEAST, n(9)), of(50, of(51, LEAST, n(9)), n(9)));
        same("10 * 100 - 999", n(0), of(51, of(52, TEN, HUNDRED), MOST));
        same("1000 - 1000", n(0), of(51, of(52, TEN, HUNDRED), of(52, TEN, HUNDRED)));
        same("0 * what is beyond", n(0), of(52, n(0), of(52, MOST, MOST)));
    }

    // "53 EQUAL, 54 LESS (than the second)"

    private static void lessBesideEqual() {
        for (int number = 0; number < 9; number++) {
            Expect.same("less by 1: " + number, true, holds(54, number, number + 1));
            Expect.same("not less than itself: " + number, false, holds(54, number, number));
            Expect.same("more by 1: " + number, false, holds(54, number + 1, number));
        }
        Expect.same("-1 less than 0", true, holds(54, 51, 0, 1, 0));
        Expect.same("0 less than -1", false, holds(54, 0, 51, 0, 1));
        Expect.same("-2 less than -1", true, holds(54, 51, 0, 2, 51, 0, 1));
    }

    private static void equalBesideUnequal() {
        for (int number = 0; number < 9; number++) {
            Expect.same("equal: " + number, true, holds(53, number, number));
            Expect.same("1 beside: " + number, false, holds(53, number, number + 1));
        }
        Expect.same("-1 is not 1", false, holds(53, 51, 0, 1, 1));
    }

    private static void boundsCompared() {
        Expect.same("998 less than 999", true, holds(of(54, NEXT_TO_MOST, MOST)));
        Expect.same("999 less than 999 + 1", false, holds(of(54, MOST, of(50, MOST, n(1)))));
        Expect.same("-999 less than -998", true, holds(of(54, LEAST, of(51, n(1), MOST))));
        Expect.same("-999 less than 999", true, holds(of(54, LEAST, MOST)));
    }

    // "58 IF, the first of these if the truth holds, else the second"

    private static void ifTakesOne() {
        same("if it holds", n(3), of(58, of(53, n(1), n(1)), n(3), n(4)));
        same("if it does not", n(4), of(58, of(53, n(1), n(2)), n(3), n(4)));
        same("the other is beyond", n(4), of(58, of(54, n(1), n(1)), of(52, MOST, MOST), n(4)));
        same("if below 0", LEAST, of(58, of(53, n(1), n(1)), LEAST, n(0)));
    }

    // "of two truths: 55 BOTH, 56 EITHER; of one truth: 57 NOT"

    private static void truthsOfTruths() {
        for (int both = 0; both <= 3; both++) {
            boolean first = (both & 1) != 0;
            boolean second = (both & 2) != 0;
            int[] one = of(53, n(1), n(first ? 1 : 0));
            int[] two = of(53, n(1), n(second ? 1 : 0));
            Expect.same("both " + both, first && second, holds(of(55, one, two)));
            Expect.same("either " + both, first || second, holds(of(56, one, two)));
            Expect.same("not " + first, !first, holds(of(57, one)));
        }
    }

    // "at most 24 words": the last word of the longest formula counts too.

    private static void longestFormulasAnswer() {
        int[] ninetyNine = new int[23];
        Arrays.fill(ninetyNine, 0, 11, 50);
        Arrays.fill(ninetyNine, 11, 22, 9);
        same("11 nines and 0, 23 words", of(52, n(9), of(50, TEN, n(1))), ninetyNine);
        for (int last = 0; last <= 2; last++) {
            int[] nots = new int[24];
            Arrays.fill(nots, 0, 21, 57);
            System.arraycopy(new int[] {53, 1, last}, 0, nots, 21, 3);
            Expect.same("21 times not, 24 words", last != 1, holds(nots));
            int[] ifs = {58, 57, 54, 1, 2, 3, 58, 54, 2, 1, 3, 58, 53, 1, 2, 4, 58, 53, 1, 2, 5,
                50, 2, last};
            same("the last of four ifs, 24 words", n(2 + last), ifs);
        }
    }
}
