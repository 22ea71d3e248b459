import java.util.ArrayDeque;
import java.util.ArrayList;
import java.util.Arrays;
import java.util.Deque;
import java.util.List;

/**
 * The document written a second time, sentence by sentence and without regard to speed: trees of
 * formulas, all states one by one, nothing kept between calls.
 */
final class PlainMachines {
    /** A formula as a tree. */
    private static final class Tree {
        final int word;
        final List<Tree> parts = new ArrayList<>();

        Tree(int word) {
            this.word = word;
        }

        boolean isTruth() {
            return word >= 53 && word <= 57;
        }

        boolean reads(int least, int greatest) {
            return word >= least && word <= greatest
                    || parts.stream().anyMatch(part -> part.reads(least, greatest));
        }

        boolean holds(int[] state, int parameter) {
            switch (word) {
                case 53: return number(0, state, parameter) == number(1, state, parameter);
                case 54: return number(0, state, parameter) < number(1, state, parameter);
                case 55: return truth(0, state, parameter) && truth(1, state, parameter);
                case 56: return truth(0, state, parameter) || truth(1, state, parameter);
                default: return !truth(0, state, parameter);
            }
        }

        int number(int[] state, int parameter) {
            if (word <= 9) {
                return word;
            }
            switch (word) {
                case 40: return parameter;
                case 50: return near(number(0, state, parameter) + number(1, state, parameter));
                case 51: return near(number(0, state, parameter) - number(1, state, parameter));
                case 52: return near(number(0, state, parameter) * number(1, state, parameter));
                case 58: return number(truth(0, state, parameter) ? 1 : 2, state, parameter);
                default: return state[word - 20];
            }
        }

        private int number(int part, int[] state, int parameter) {
            return parts.get(part).number(state, parameter);
        }

        private boolean truth(int part, int[] state, int parameter) {
            return parts.get(part).holds(state, parameter);
        }

        private static int near(int number) {
            return number > 999 ? 999 : number < -999 ? -999 : number;
        }
    }

    /** An event. */
    private static final class Happening {
        int machine;
        int range;
        Happening above;
        Tree guard;
        Tree witness;
        final Tree[] assignments = new Tree[6];

        boolean isEnabled(int[] state, int parameter) {
            return guard == null || guard.holds(state, parameter);
        }

        int witness(int[] state, int parameter) {
            return witness == null ? 0 : witness.number(state, parameter);
        }
    }

    private final int[] sizes = {1, 1, 1, 1, 1, 1};
    private final int[] initials = new int[6];
    private final List<Integer> written = new ArrayList<>();
    private final List<Tree> formulas = new ArrayList<>();
    private final List<Happening> events = new ArrayList<>();
    private final List<Tree> upperInvariants = new ArrayList<>();
    private final List<Tree> lowerInvariants = new ArrayList<>();
    private Tree variant;
    private int[] shown;
    private int[] now;
    private final Deque<int[]> past = new ArrayDeque<>();
    private boolean torn;
    private int place;

    private static void bad(boolean is) {
        if (is) {
            throw new IllegalArgumentException();
        }
    }

    private static void late(boolean is) {
        if (is) {
            throw new IllegalStateException();
        }
    }

    void variable(int v, int size, int initial) {
        bad(v < 0 || v > 5 || size < 1 || size > 4 || initial < 0 || initial >= size);
        sizes[v] = size;
        initials[v] = initial;
        now = null;
        past.clear();
        torn = false;
    }

    int word(int w) {
        boolean is = w >= 0 && w <= 9 || w >= 20 && w <= 25 || w == 40 || w >= 50 && w <= 58;
        bad(!is);
        late(written.size() == 24);
        written.add(w);
        return written.size();
    }

    int formula() {
        place = 0;
        Tree tree = read();
        if (tree == null || place != written.size()) {
            written.clear();
            throw new IllegalArgumentException();
        }
        late(formulas.size() == 30);
        written.clear();
        formulas.add(tree);
        return formulas.size() - 1;
    }

    private Tree read() {
        if (place >= written.size()) {
            return null;
        }
        Tree tree = new Tree(written.get(place));
        place++;
        for (char due : partsOf(tree.word).toCharArray()) {
            Tree part = read();
            if (part == null || part.isTruth() != (due == 't')) {
                return null;
            }
            tree.parts.add(part);
        }
        return tree;
    }

    private static String partsOf(int word) {
        if (word < 50) {
            return "";
        }
        String[] parts = {"nn", "nn", "nn", "nn", "nn", "tt", "tt", "t", "tnn"};
        return parts[word - 50];
    }

    int event(int machine, int range, int refined) {
        bad(machine != 0 && machine != 1 || range < 1 || range > 4);
        bad(machine == 0 && refined != -1);
        bad(refined < -1 || refined >= events.size());
        bad(refined != -1 && events.get(refined).machine != 0);
        late(events.size() == 12);
        Happening made = new Happening();
        made.machine = machine;
        made.range = range;
        made.above = refined == -1 ? null : events.get(refined);
        events.add(made);
        return events.size() - 1;
    }

    private Happening eventOf(int event) {
        bad(event < 0 || event >= events.size());
        return events.get(event);
    }

    private Tree formulaOf(int formula, boolean truth) {
        bad(formula < 0 || formula >= formulas.size());
        bad(formulas.get(formula).isTruth() != truth);
        return formulas.get(formula);
    }

    void guard(int event, int formula) {
        Happening of = eventOf(event);
        Tree tree = formulaOf(formula, true);
        bad(of.machine == 0 && tree.reads(23, 25));
        of.guard = tree;
    }

    void assign(int event, int variable, int formula) {
        Happening of = eventOf(event);
        Tree tree = formulaOf(formula, false);
        bad(variable < 3 * of.machine || variable > 2 + 3 * of.machine);
        bad(of.machine == 0 && tree.reads(23, 25));
        of.assignments[variable] = tree;
    }

    void witness(int event, int formula) {
        Happening of = eventOf(event);
        Tree tree = formulaOf(formula, false);
        bad(of.above == null);
        of.witness = tree;
    }

    int invariant(int machine, int formula) {
        bad(machine != 0 && machine != 1);
        Tree tree = formulaOf(formula, true);
        bad(tree.reads(40, 40) || machine == 0 && tree.reads(23, 25));
        List<Tree> all = machine == 0 ? upperInvariants : lowerInvariants;
        late(all.size() == 6);
        all.add(tree);
        return all.size();
    }

    void variant(int formula) {
        Tree tree = formulaOf(formula, false);
        bad(tree.reads(40, 40));
        variant = tree;
    }

    private boolean isRightAbove(int[] state) {
        return upperInvariants.stream().allMatch(tree -> tree.holds(state, 0));
    }

    private boolean isRight(int[] state) {
        return isRightAbove(state) && lowerInvariants.stream().allMatch(tree -> tree.holds(state, 0));
    }

    private boolean isState(int[] values) {
        for (int v = 0; v < 6; v++) {
            if (values[v] < 0 || values[v] >= sizes[v]) {
                return false;
            }
        }
        return true;
    }

    private int[] led(Happening of, int[] state, int parameter) {
        int[] next = state.clone();
        for (int v = 0; v < 6; v++) {
            if (of.assignments[v] != null) {
                next[v] = of.assignments[v].number(state, parameter);
            }
        }
        return next;
    }

    private int[] ledTogether(Happening of, int[] state, int parameter) {
        int[] next = led(of, state, parameter);
        if (of.above != null) {
            int[] upper = led(of.above, state, of.witness(state, parameter));
            System.arraycopy(upper, 0, next, 0, 3);
        }
        return next;
    }

    private boolean isStronger(Happening of, int[] state, int parameter) {
        int witness = of.witness(state, parameter);
        return witness >= 0 && witness < of.above.range && of.above.isEnabled(state, witness);
    }

    private boolean isLowering(Happening of, int[] state, int parameter) {
        int[] next = ledTogether(of, state, parameter);
        int before = variant == null ? 0 : variant.number(state, 0);
        int after = variant == null ? 0 : variant.number(next, 0);
        return before >= 0 && (!isState(next) || after < before);
    }

    private List<int[]> allStates() {
        List<int[]> all = new ArrayList<>();
        int[] state = new int[6];
        for (state[0] = 0; state[0] < sizes[0]; state[0]++) {
            for (state[1] = 0; state[1] < sizes[1]; state[1]++) {
                for (state[2] = 0; state[2] < sizes[2]; state[2]++) {
                    for (state[3] = 0; state[3] < sizes[3]; state[3]++) {
                        for (state[4] = 0; state[4] < sizes[4]; state[4]++) {
                            for (state[5] = 0; state[5] < sizes[5]; state[5]++) {
                                all.add(state.clone());
                            }
                        }
                    }
                }
            }
        }
        return all;
    }

    private static int[] row(int[] state, int parameter) {
        int[] row = Arrays.copyOf(state, 7);
        row[6] = parameter;
        return row;
    }

    private boolean hasDuty(int kind, Happening of) {
        switch (kind) {
            case 1: return true;
            case 2: return of.machine == 0;
            case 3: return of.machine == 1;
            case 4: return of.machine == 1 && of.above != null;
            default: return of.machine == 1 && of.above == null;
        }
    }

    private boolean isKept(int kind, Happening of, int[] state, int parameter) {
        int[] own = led(of, state, parameter);
        int[] next = ledTogether(of, state, parameter);
        switch (kind) {
            case 1: return isState(own);
            case 2: return !isState(own) || isRightAbove(own);
            case 3: return !isState(next) || isRight(next);
            case 4: return isStronger(of, state, parameter);
            default: return isLowering(of, state, parameter);
        }
    }

    private int[] firstBreak(int kind, Happening of) {
        for (int[] state : allStates()) {
            boolean hasLower = state[3] != 0 || state[4] != 0 || state[5] != 0;
            boolean counts = of.machine == 0 ? !hasLower && isRightAbove(state) : isRight(state);
            for (int p = 0; counts && p < of.range; p++) {
                if (of.isEnabled(state, p) && !isKept(kind, of, state, p)) {
                    return row(state, p);
                }
            }
        }
        return null;
    }

    private boolean isMoving(int[] state) {
        for (Happening of : events) {
            for (int p = 0; of.machine == 1 && p < of.range; p++) {
                if (of.isEnabled(state, p)) {
                    return true;
                }
            }
        }
        return false;
    }

    private int[] firstStandstill() {
        for (int[] state : allStates()) {
            if (isRight(state) && !isMoving(state)) {
                return row(state, 0);
            }
        }
        return null;
    }

    boolean done(int kind, int event) {
        bad(kind < 0 || kind > 6);
        if (kind == 0 || kind == 6) {
            bad(event != 0);
            shown = kind == 6 ? firstStandstill() : isRight(initials) ? null : row(initials, 0);
            return shown == null;
        }
        Happening of = eventOf(event);
        bad(!hasDuty(kind, of));
        shown = firstBreak(kind, of);
        return shown == null;
    }

    int broken(int what) {
        bad(what < 0 || what > 6);
        return shown == null ? -1 : shown[what];
    }

    int open() {
        int count = isRight(initials) ? 0 : 1;
        for (Happening of : events) {
            for (int kind = 1; kind <= 5; kind++) {
                count += hasDuty(kind, of) && firstBreak(kind, of) != null ? 1 : 0;
            }
        }
        return count;
    }

    void start() {
        now = initials.clone();
        past.clear();
        torn = false;
    }

    boolean enabled(int event, int parameter) {
        Happening of = eventOf(event);
        bad(of.machine != 1 || parameter < 0 || parameter >= of.range);
        late(now == null);
        return of.isEnabled(now, parameter) && isState(ledTogether(of, now, parameter));
    }

    int fire(int event, int parameter) {
        if (!enabled(event, parameter) || torn || past.size() == 60) {
            throw new UnsupportedOperationException();
        }
        Happening of = events.get(event);
        torn = of.above != null && !isStronger(of, now, parameter);
        past.push(now);
        now = ledTogether(of, now, parameter);
        return past.size();
    }

    int back() {
        late(past.isEmpty());
        now = past.pop();
        torn = false;
        return past.size();
    }

    int value(int variable) {
        bad(variable < 0 || variable > 5);
        return now == null ? 0 : now[variable];
    }

    boolean torn() {
        return torn;
    }

    boolean right() {
        return isRight(now == null ? initials : now);
    }
}
