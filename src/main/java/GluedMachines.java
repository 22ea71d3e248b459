import java.util.Arrays;

/**
 * Two machines, of which the lower one is to do what the upper one does, with more in it.
 *
 * <p>A row is an array of seven numbers: the values of the variables 0 to 5 and, last, that of the
 * parameter. Formulas are asked in rows.
 */
public final class GluedMachines {
    private static final int UPPER = 0;
    private static final int LOWER = 1;
    private static final int NO_EVENT = -1;

    private static final int VARIABLES = 6;
    private static final int FIRST_LOWER_VARIABLE = 3;
    private static final int PARAMETER_PLACE = 6;
    private static final int ROW = 7;
    private static final int NOTHING = -1;

    private static final int LARGEST_SIZE = 4;
    private static final int LARGEST_RANGE = 4;
    private static final int MOST_WORDS = 24;
    private static final int MOST_FORMULAS = 30;
    private static final int MOST_EVENTS = 12;
    private static final int MOST_INVARIANTS = 6;
    private static final int MOST_STEPS = 60;

    private static final int BEGINNING = 0;
    private static final int RANGE = 1;
    private static final int UPPER_KEEPING = 2;
    private static final int LOWER_KEEPING = 3;
    private static final int STRONGER = 4;
    private static final int LOWERING = 5;
    private static final int MOVING = 6;

    private final Writing writing = new Writing();
    private final Formula[] formulas = new Formula[MOST_FORMULAS];
    private int formulaCount = 0;
    private final Model model;
    private final Duties duties;
    private final Run run;
    private final int[] shown = new int[ROW];
    private boolean shows = false;

    public GluedMachines() {
        Model told = new Model();
        model = told;
        duties = new Duties(told);
        run = new Run(told);
    }

    public void variable(int v, int size, int initial) throws IllegalArgumentException {
        if (!isVariable(v) || !isWithin(size - 1, LARGEST_SIZE) || !isWithin(initial, size)) {
            throw new IllegalArgumentException();
        }
        model.sizes[v] = size;
        model.initials[v] = initial;
        run.end();
    }

    public int word(int w) throws IllegalArgumentException, IllegalStateException {
        if (!Words.isOne(w)) {
            throw new IllegalArgumentException();
        }
        if (writing.count == MOST_WORDS) {
            throw new IllegalStateException();
        }
        return writing.add(w);
    }

    public int formula() throws IllegalArgumentException, IllegalStateException {
        if (!writing.isFormula()) {
            writing.clear();
            throw new IllegalArgumentException();
        }
        if (formulaCount == MOST_FORMULAS) {
            throw new IllegalStateException();
        }
        formulas[formulaCount] = new Formula(writing);
        writing.clear();
        formulaCount++;
        return formulaCount - 1;
    }

    public int event(int machine, int range, int refined)
            throws IllegalArgumentException, IllegalStateException {
        if (!isMachine(machine) || !isWithin(range - 1, LARGEST_RANGE)
                || !mayRefine(machine, refined)) {
            throw new IllegalArgumentException();
        }
        if (model.eventCount == MOST_EVENTS) {
            throw new IllegalStateException();
        }
        return model.add(new Event(machine, range, model.eventOrNone(refined)));
    }

    public void guard(int event, int formula) throws IllegalArgumentException {
        Event of = eventAt(event);
        Formula by = truthAt(formula);
        refuseUnless(of.mayHave(by));
        of.guard = by;
    }

    public void assign(int event, int variable, int formula) throws IllegalArgumentException {
        Event of = eventAt(event);
        Formula by = numberAt(formula);
        refuseUnless(isVariable(variable) && machineOf(variable) == of.machine && of.mayHave(by));
        of.assigned[variable] = by;
    }

    public void witness(int event, int formula) throws IllegalArgumentException {
        Event of = eventAt(event);
        Formula by = numberAt(formula);
        refuseUnless(of.refined != null);
        of.witness = by;
    }

    public int invariant(int machine, int formula)
            throws IllegalArgumentException, IllegalStateException {
        Formula by = truthAt(formula);
        refuseUnless(isMachine(machine) && !by.hasParameter()
                && (machine == LOWER || !by.hasLowerVariables()));
        if (model.invariants.count(machine) == MOST_INVARIANTS) {
            throw new IllegalStateException();
        }
        return model.invariants.add(machine, by);
    }

    public void variant(int formula) throws IllegalArgumentException {
        Formula by = numberAt(formula);
        refuseUnless(!by.hasParameter());
        model.variant = by;
    }

    public boolean done(int kind, int event) throws IllegalArgumentException {
        refuseUnless(isDuty(kind, event));
        boolean whole;
        if (kind == BEGINNING) {
            whole = duties.isBeginningRight();
        } else if (kind == MOVING) {
            whole = duties.isMovingAlways();
        } else {
            whole = duties.wholeKinds(eventAt(event), 1 << kind) != 0;
        }
        shows = !whole;
        if (shows) {
            System.arraycopy(duties.row, 0, shown, 0, ROW);
        }
        return whole;
    }

    public int broken(int what) throws IllegalArgumentException {
        refuseUnless(isWithin(what, ROW));
        return shows ? shown[what] : NOTHING;
    }

    public int open() {
        int count = duties.isBeginningRight() ? 0 : 1;
        for (int i = 0; i < model.eventCount; i++) {
            int asked = model.events[i].dutyKinds();
            int whole = duties.wholeKinds(model.events[i], asked);
            count += Integer.bitCount(asked) - Integer.bitCount(whole);
        }
        return count;
    }

    public void start() {
        run.begin();
    }

    public boolean enabled(int event, int parameter)
            throws IllegalArgumentException, IllegalStateException {
        Event of = lowerEventAt(event, parameter);
        if (!run.isOn) {
            throw new IllegalStateException();
        }
        return run.canDo(of, parameter);
    }

    public int fire(int event, int parameter)
            throws IllegalArgumentException, IllegalStateException, UnsupportedOperationException {
        Event of = lowerEventAt(event, parameter);
        if (!run.isOn) {
            throw new IllegalStateException();
        }
        if (run.isTorn || run.steps == MOST_STEPS || !run.canDo(of, parameter)) {
            throw new UnsupportedOperationException();
        }
        return run.advance(of, parameter);
    }

    public int back() throws IllegalStateException {
        if (run.steps == 0) {
            throw new IllegalStateException();
        }
        return run.retreat();
    }

    public int value(int variable) throws IllegalArgumentException {
        refuseUnless(isVariable(variable));
        return run.isOn ? run.row[variable] : 0;
    }

    public boolean torn() {
        return run.isTorn;
    }

    public boolean right() {
        return model.invariants.hold(LOWER, run.isOn ? run.row : model.initials);
    }

    private static void refuseUnless(boolean fine) {
        if (!fine) {
            throw new IllegalArgumentException();
        }
    }

    private static boolean isWithin(int number, int size) {
        return number >= 0 && number < size;
    }

    private static boolean isMachine(int machine) {
        return machine == UPPER || machine == LOWER;
    }

    private static boolean isVariable(int v) {
        return isWithin(v, VARIABLES);
    }

    private static int machineOf(int variable) {
        return variable < FIRST_LOWER_VARIABLE ? UPPER : LOWER;
    }

    private boolean mayRefine(int machine, int refined) {
        if (refined == NO_EVENT) {
            return true;
        }
        Event above = model.eventOrNone(refined);
        return machine == LOWER && above != null && above.machine == UPPER;
    }

    private Event eventAt(int number) {
        Event found = model.eventOrNone(number);
        if (found == null) {
            throw new IllegalArgumentException();
        }
        return found;
    }

    private Event lowerEventAt(int number, int parameter) {
        Event found = eventAt(number);
        refuseUnless(found.machine == LOWER && isWithin(parameter, found.range));
        return found;
    }

    private Formula truthAt(int number) {
        refuseUnless(isWithin(number, formulaCount) && formulas[number].isTruth);
        return formulas[number];
    }

    private Formula numberAt(int number) {
        refuseUnless(isWithin(number, formulaCount) && !formulas[number].isTruth);
        return formulas[number];
    }

    private boolean isDuty(int kind, int event) {
        if (kind == BEGINNING || kind == MOVING) {
            return event == 0;
        }
        Event of = model.eventOrNone(event);
        return of != null && kind > BEGINNING && kind < MOVING && of.hasDuty(kind);
    }

    /** What the words are, and what their parts must be. */
    private static final class Words {
        static final int LAST_NUMBER = 9;
        static final int FIRST_VARIABLE = 20;
        static final int LAST_VARIABLE = 25;
        static final int PARAMETER = 40;
        static final int PLUS = 50;
        static final int MINUS = 51;
        static final int TIMES = 52;
        static final int EQUAL = 53;
        static final int LESS = 54;
        static final int BOTH = 55;
        static final int EITHER = 56;
        static final int NOT = 57;
        static final int IF = 58;

        static final int NO_KIND = 0;
        static final int NUMBER = 1;
        static final int TRUTH = 2;

        static boolean isOne(int w) {
            return (w >= 0 && w <= LAST_NUMBER) || (w >= FIRST_VARIABLE && w <= LAST_VARIABLE)
                    || w == PARAMETER || isOperator(w);
        }

        static boolean isOperator(int w) {
            return w >= PLUS && w <= IF;
        }

        static int kindOf(int w) {
            return w >= EQUAL && w <= NOT ? TRUTH : NUMBER;
        }

        static int kindOfFirstPart(int operator) {
            return operator >= BOTH ? TRUTH : NUMBER;
        }

        static int kindOfSecondPart(int operator) {
            return operator == BOTH || operator == EITHER ? TRUTH : NUMBER;
        }

        static int partsOf(int operator) {
            if (operator == IF) {
                return 3;
            }
            return operator == NOT ? 1 : 2;
        }
    }

    /**
     * The words that are written. They are looked at from the last to the first: then the parts of
     * an operator are known before it. The place behind the last word has no kind, so a part that
     * is missing is one of the wrong kind.
     */
    private static final class Writing {
        final int[] words = new int[MOST_WORDS];
        final int[] kinds = new int[MOST_WORDS + 1];
        final int[] ends = new int[MOST_WORDS + 1];
        int count = 0;

        int add(int w) {
            words[count] = w;
            count++;
            return count;
        }

        void clear() {
            count = 0;
        }

        boolean isFormula() {
            kinds[count] = Words.NO_KIND;
            ends[count] = count;
            for (int i = count - 1; i >= 0; i--) {
                ends[i] = endFrom(i);
                boolean fits = ends[i] > i;
                kinds[i] = fits ? Words.kindOf(words[i]) : Words.NO_KIND;
                ends[i] = fits ? ends[i] : count;
            }
            return kinds[0] != Words.NO_KIND && ends[0] == count;
        }

        /** Where the part that begins at a place ends; that place itself if it is no part. */
        private int endFrom(int place) {
            int w = words[place];
            int first = place + 1;
            if (!Words.isOperator(w)) {
                return first;
            }
            int second = ends[first];
            int third = ends[second];
            int parts = Words.partsOf(w);
            if (kinds[first] != Words.kindOfFirstPart(w)
                    || (parts > 1 && kinds[second] != Words.kindOfSecondPart(w))
                    || (parts > 2 && kinds[third] != Words.NUMBER)) {
                return place;
            }
            if (parts == 1) {
                return second;
            }
            return parts == 2 ? third : ends[third];
        }
    }

    /** A formula that has been made; a truth answers 1 if it holds, else 0. */
    private static final class Formula {
        static final int FARTHEST = 999;
        static final int LOWER_VARIABLES = 0b111000;
        static final int PARAMETER_BIT = 1 << PARAMETER_PLACE;

        final int[] words;
        final int[] seconds;
        final int[] thirds;
        final int[] answers = new int[MOST_WORDS + 1];
        final boolean isTruth;
        final int mentions;

        Formula(Writing from) {
            words = Arrays.copyOf(from.words, from.count);
            seconds = new int[from.count];
            thirds = new int[from.count];
            int found = 0;
            for (int i = 0; i < from.count; i++) {
                seconds[i] = from.ends[i + 1];
                thirds[i] = from.ends[seconds[i]];
                found |= mentionOf(words[i]);
            }
            isTruth = from.kinds[0] == Words.TRUTH;
            mentions = found;
        }

        private static int mentionOf(int w) {
            boolean isRead = w >= Words.FIRST_VARIABLE && w <= Words.PARAMETER;
            return isRead ? 1 << placeOf(w) : 0;
        }

        private static int placeOf(int w) {
            return w == Words.PARAMETER ? PARAMETER_PLACE : w - Words.FIRST_VARIABLE;
        }

        boolean hasParameter() {
            return (mentions & PARAMETER_BIT) != 0;
        }

        boolean hasLowerVariables() {
            return (mentions & LOWER_VARIABLES) != 0;
        }

        int answerIn(int[] row) {
            for (int i = words.length - 1; i >= 0; i--) {
                int w = words[i];
                if (w <= Words.LAST_NUMBER) {
                    answers[i] = w;
                } else if (w <= Words.PARAMETER) {
                    answers[i] = row[placeOf(w)];
                } else {
                    int third = answers[thirds[i]];
                    int number = result(w, answers[i + 1], answers[seconds[i]], third);
                    // All other answers are within these bounds anyway.
                    answers[i] = Math.max(-FARTHEST, Math.min(FARTHEST, number));
                }
            }
            return answers[0];
        }

        private static int result(int operator, int first, int second, int third) {
            switch (operator) {
                case Words.PLUS:
                    return first + second;
                case Words.MINUS:
                    return first - second;
                case Words.TIMES:
                    return first * second;
                case Words.EQUAL:
                    return first == second ? 1 : 0;
                case Words.LESS:
                    return first < second ? 1 : 0;
                case Words.BOTH:
                    return first & second;
                case Words.EITHER:
                    return first | second;
                case Words.NOT:
                    return 1 - first;
                default:
                    return first != 0 ? second : third;
            }
        }
    }

    /** An event; what it has none of is null. */
    private static final class Event {
        final int machine;
        final int range;
        final Event refined;
        Formula guard = null;
        Formula witness = null;
        final Formula[] assigned = new Formula[VARIABLES];

        Event(int machine, int range, Event refined) {
            this.machine = machine;
            this.range = range;
            this.refined = refined;
        }

        boolean mayHave(Formula by) {
            return machine == LOWER || !by.hasLowerVariables();
        }

        boolean allows(int[] row) {
            return guard == null || guard.answerIn(row) != 0;
        }

        /** The kinds of its duties, a bit for each. */
        int dutyKinds() {
            if (machine == UPPER) {
                return (1 << RANGE) | (1 << UPPER_KEEPING);
            }
            int last = refined == null ? LOWERING : STRONGER;
            return (1 << RANGE) | (1 << LOWER_KEEPING) | (1 << last);
        }

        boolean hasDuty(int kind) {
            return (dutyKinds() & (1 << kind)) != 0;
        }

        /** What its formulas read, without those of the event that it refines. */
        int mentions() {
            int found = (guard == null ? 0 : guard.mentions)
                    | (witness == null ? 0 : witness.mentions);
            for (int v = 0; v < VARIABLES; v++) {
                found |= assigned[v] == null ? 0 : assigned[v].mentions;
            }
            return found;
        }
    }

    /**
     * The invariants of both machines. Each state is asked for by many duties, so what was found
     * of it is kept until there is one invariant more: for the lower ones a bit for each lower part
     * in the cell of its upper part, for the upper ones a bit for each upper part in a last cell.
     */
    private static final class Invariants {
        static final int ABOVE_CELL = 64;

        final Formula[] upper = new Formula[MOST_INVARIANTS];
        final Formula[] lower = new Formula[MOST_INVARIANTS];
        int upperCount = 0;
        int lowerCount = 0;
        final long[] known = new long[ABOVE_CELL + 1];
        final long[] found = new long[ABOVE_CELL + 1];

        int count(int machine) {
            return machine == UPPER ? upperCount : lowerCount;
        }

        int add(int machine, Formula truth) {
            Arrays.fill(known, 0L);
            Arrays.fill(found, 0L);
            if (machine == UPPER) {
                upper[upperCount] = truth;
                upperCount++;
            } else {
                lower[lowerCount] = truth;
                lowerCount++;
            }
            return count(machine);
        }

        /** What they read: those of the upper machine, and for the lower one those of both. */
        int mentions(int machine) {
            int read = 0;
            for (int i = 0; i < upperCount; i++) {
                read |= upper[i].mentions;
            }
            if (machine == UPPER) {
                return read;
            }
            for (int i = 0; i < lowerCount; i++) {
                read |= lower[i].mentions;
            }
            return read;
        }

        /** Whether a state is right above, for the upper machine, or right, for the lower one. */
        boolean hold(int machine, int[] state) {
            int above = codeOf(state, 0);
            if (!isRight(UPPER, ABOVE_CELL, above, state)) {
                return false;
            }
            return machine == UPPER
                    || isRight(LOWER, above, codeOf(state, FIRST_LOWER_VARIABLE), state);
        }

        /** Whether the invariants of one machine alone hold. */
        private boolean isRight(int machine, int cell, int place, int[] state) {
            long bit = 1L << place;
            if ((known[cell] & bit) == 0) {
                Formula[] all = machine == UPPER ? upper : lower;
                boolean holds = true;
                for (int i = 0; i < count(machine) && holds; i++) {
                    holds = all[i].answerIn(state) != 0;
                }
                known[cell] |= bit;
                found[cell] |= holds ? bit : 0L;
            }
            return (found[cell] & bit) != 0;
        }

        /** Three values, two bits for each: no size is above 4. */
        private static int codeOf(int[] state, int first) {
            int high = ((state[first] & 3) << 2) | (state[first + 1] & 3);
            return (high << 2) | (state[first + 2] & 3);
        }
    }

    /** What has been told of both machines, and where their events lead. */
    private static final class Model {
        final int[] sizes = new int[VARIABLES];
        final int[] initials = new int[ROW];
        final Event[] events = new Event[MOST_EVENTS];
        int eventCount = 0;
        final Invariants invariants = new Invariants();
        Formula variant = null;
        final int[] after = new int[ROW];
        final int[] above = new int[ROW];

        Model() {
            Arrays.fill(sizes, 1);
        }

        int add(Event made) {
            events[eventCount] = made;
            eventCount++;
            return eventCount - 1;
        }

        Event eventOrNone(int number) {
            return isWithin(number, eventCount) ? events[number] : null;
        }

        int variantIn(int[] state) {
            return variant == null ? 0 : variant.answerIn(state);
        }

        /**
         * Where an event leads, a lower one together with that which it refines, is then in after;
         * whether that is a state.
         */
        boolean leads(Event of, int[] row) {
            System.arraycopy(row, 0, after, 0, ROW);
            if (!staysWithin(of, row)) {
                return false;
            }
            if (of.refined == null) {
                return true;
            }
            lookAbove(of, row);
            return staysWithin(of.refined, above);
        }

        /** Does the event's own assignments into after: whether all values are within the sizes. */
        boolean staysWithin(Event of, int[] row) {
            for (int v = 0; v < VARIABLES; v++) {
                if (of.assigned[v] != null) {
                    after[v] = of.assigned[v].answerIn(row);
                    if (!isWithin(after[v], sizes[v])) {
                        return false;
                    }
                }
            }
            return true;
        }

        /** Whether the refined event, if there is one, may be done with the witness. */
        boolean isAllowedAbove(Event of, int[] row) {
            if (of.refined == null) {
                return true;
            }
            lookAbove(of, row);
            return isWithin(above[PARAMETER_PLACE], of.refined.range) && of.refined.allows(above);
        }

        /** The refined event sees the same state, but the witness as its parameter. */
        private void lookAbove(Event of, int[] row) {
            System.arraycopy(row, 0, above, 0, ROW);
            above[PARAMETER_PLACE] = of.witness == null ? 0 : of.witness.answerIn(row);
        }
    }

    /**
     * The duties, looked at in all states. What breaks a duty first is left in row. A variable or
     * parameter that no formula of concern reads stays 0: what breaks a duty with another value of
     * it breaks it with 0 too, which is earlier.
     */
    private static final class Duties {
        final Model model;
        final int[] row = new int[ROW];
        private final int[] limits = new int[ROW];
        private int rows = 0;

        Duties(Model model) {
            this.model = model;
        }

        boolean isBeginningRight() {
            System.arraycopy(model.initials, 0, row, 0, ROW);
            return model.invariants.hold(LOWER, row);
        }

        boolean isMovingAlways() {
            int mentions = model.invariants.mentions(LOWER);
            for (int i = 0; i < model.eventCount; i++) {
                mentions |= model.events[i].machine == LOWER ? model.events[i].mentions() : 0;
            }
            beginRows(mentions, 1);
            for (int k = 0; k < rows; k++) {
                if (model.invariants.hold(LOWER, row) && !isMoving()) {
                    return false;
                }
                nextRow();
            }
            return true;
        }

        private boolean isMoving() {
            boolean found = false;
            for (int i = 0; i < model.eventCount && !found; i++) {
                Event of = model.events[i];
                for (int p = 0; of.machine == LOWER && p < of.range && !found; p++) {
                    row[PARAMETER_PLACE] = p;
                    found = of.allows(row);
                }
            }
            row[PARAMETER_PLACE] = 0;
            return found;
        }

        /**
         * Those of the asked kinds of duties of an event, a bit for each, that are done; when none
         * is, row is left where the last of them was broken.
         */
        int wholeKinds(Event of, int asked) {
            beginRows(mentionsFor(of), of.range);
            int whole = asked;
            for (int k = 0; k < rows; k++) {
                if (model.invariants.hold(of.machine, row) && of.allows(row)) {
                    for (int kind = RANGE; kind <= LOWERING; kind++) {
                        int bit = 1 << kind;
                        if ((whole & bit) != 0 && !isKept(kind, of)) {
                            whole &= ~bit;
                        }
                    }
                }
                if (whole == 0) {
                    return 0;
                }
                nextRow();
            }
            return whole;
        }

        private int mentionsFor(Event of) {
            int found = of.mentions() | model.invariants.mentions(of.machine);
            if (of.hasDuty(LOWERING) && model.variant != null) {
                found |= model.variant.mentions;
            }
            if (of.refined != null) {
                // The parameter of the refined event is the witness, not this event's own.
                found |= of.refined.mentions() & ~Formula.PARAMETER_BIT;
            }
            return found;
        }

        private void beginRows(int mentions, int range) {
            rows = 1;
            for (int i = 0; i < ROW; i++) {
                int size = i == PARAMETER_PLACE ? range : model.sizes[i];
                limits[i] = (mentions & (1 << i)) != 0 ? size : 1;
                rows *= limits[i];
                row[i] = 0;
            }
        }

        private void nextRow() {
            for (int i = ROW - 1; i >= 0; i--) {
                row[i]++;
                if (row[i] < limits[i]) {
                    return;
                }
                row[i] = 0;
            }
        }

        /** Whether an enabled event does its duty of a kind in this row. */
        private boolean isKept(int kind, Event of) {
            switch (kind) {
                case RANGE:
                    return model.staysWithin(of, row);
                case STRONGER:
                    return model.isAllowedAbove(of, row);
                case LOWERING:
                    int before = model.variantIn(row);
                    return before >= 0
                            && (!model.leads(of, row) || model.variantIn(model.after) < before);
                default:
                    return !model.leads(of, row) || model.invariants.hold(of.machine, model.after);
            }
        }
    }

    /** A run of the lower machine, with the upper one beside it. */
    private static final class Run {
        final Model model;
        final int[] row = new int[ROW];
        private final int[] past = new int[MOST_STEPS * VARIABLES];
        int steps = 0;
        boolean isOn = false;
        boolean isTorn = false;

        Run(Model model) {
            this.model = model;
        }

        void begin() {
            end();
            isOn = true;
            System.arraycopy(model.initials, 0, row, 0, VARIABLES);
        }

        void end() {
            isOn = false;
            isTorn = false;
            steps = 0;
        }

        boolean canDo(Event of, int parameter) {
            row[PARAMETER_PLACE] = parameter;
            return of.allows(row) && model.leads(of, row);
        }

        /** Takes a step that can be done. */
        int advance(Event of, int parameter) {
            row[PARAMETER_PLACE] = parameter;
            isTorn = !model.isAllowedAbove(of, row);
            model.leads(of, row);
            System.arraycopy(row, 0, past, steps * VARIABLES, VARIABLES);
            System.arraycopy(model.after, 0, row, 0, VARIABLES);
            steps++;
            return steps;
        }

        int retreat() {
            steps--;
            System.arraycopy(past, steps * VARIABLES, row, 0, VARIABLES);
            isTorn = false;
            return steps;
        }
    }
}
