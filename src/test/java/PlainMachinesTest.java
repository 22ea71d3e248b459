import java.util.ArrayList;
import java.util.List;
import java.util.Random;
import java.util.function.Supplier;

/** Long runs of mixed calls, each made of both writings of the document; the seed is fixed. */
public final class PlainMachinesTest {
    private static final int RUNS = 400;
    private static final int CALLS = 512;

    private final Random random;
    private final int largest;
    private final GluedMachines m = new GluedMachines();
    private final PlainMachines plain = new PlainMachines();
    private final StringBuilder history = new StringBuilder();
    private final List<Integer> made = new ArrayList<>();
    private final List<Integer> lowerEvents = new ArrayList<>();
    private final List<Integer> upperEvents = new ArrayList<>();
    private int calls = 0;
    private boolean wrong = false;

    private PlainMachinesTest(long seed) {
        random = new Random(seed);
        largest = seed % 20 == 0 ? 4 : seed % 3 == 0 ? 3 : 2;
    }

    public static void main(String[] args) {
        int firstSeed = args.length > 0 ? Integer.parseInt(args[0]) : 0;
        int runs = args.length > 1 ? Integer.parseInt(args[1]) : RUNS;
        int[] outcomes = new int[4];
        for (int seed = firstSeed; seed < firstSeed + runs; seed++) {
            PlainMachinesTest run = new PlainMachinesTest(seed);
            run.tell();
            run.use(outcomes);
            Expect.same("run " + seed + ": the same answers", true, !run.wrong);
        }
        System.out.println("duties done " + outcomes[0] + ", broken " + outcomes[1]
                + ", steps " + outcomes[2] + ", torn " + outcomes[3]);
        Expect.close();
    }

    private Object both(String call, Supplier<Object> ours, Supplier<Object> theirs) {
        if (wrong || calls == CALLS) {
            return "";
        }
        calls++;
        Object due = outcome(theirs);
        Object got = outcome(ours);
        history.append(call).append(" -> ").append(got).append('\n');
        if (!due.equals(got)) {
            wrong = true;
            System.out.println(history + "due is " + due);
        }
        return got;
    }

    private static Object outcome(Supplier<Object> call) {
        try {
            return call.get();
        } catch (RuntimeException e) {
            return "throws " + e.getClass().getSimpleName();
        }
    }

    private void tell() {
        for (int v = 0; v < 6; v++) {
            variable(v);
        }
        for (int i = 0; i < 3 + random.nextInt(5); i++) {
            write(random.nextInt(3) > 0, random.nextBoolean(), random.nextInt(3) == 0);
        }
        for (int i = 0; i < 2 + random.nextInt(4); i++) {
            event();
        }
        for (int i = 0; i < 25; i++) {
            change();
        }
    }

    private void use(int[] outcomes) {
        while (calls < CALLS && !wrong) {
            int pick = random.nextInt(100);
            if (pick < 5) {
                write(random.nextBoolean(), random.nextBoolean(), random.nextInt(3) == 0);
            } else if (pick < 7) {
                event();
            } else if (pick < 8) {
                variable(random.nextInt(8) - 1);
            } else if (pick < 18) {
                change();
            } else if (pick < 55) {
                duty(outcomes);
            } else if (pick < 60) {
                both("start", () -> run(m::start), () -> run(plain::start));
            } else if (pick < 62) {
                stray();
            } else {
                step(outcomes);
            }
        }
    }

    private static Object run(Runnable call) {
        call.run();
        return "nothing";
    }

    private void variable(int v) {
        int size = random.nextInt(20) == 0 ? random.nextInt(7) : 1 + random.nextInt(largest);
        int initial = random.nextInt(10) == 0 ? random.nextInt(6) - 1 : 0;
        both("variable " + v + " " + size + " " + initial,
                () -> run(() -> m.variable(v, size, initial)),
                () -> run(() -> plain.variable(v, size, initial)));
    }

    private void word(int w) {
        both("word " + w, () -> m.word(w), () -> plain.word(w));
    }

    private void write(boolean truth, boolean upperAlone, boolean parameter) {
        List<Integer> words = new ArrayList<>();
        // Some get more words than a formula may have.
        int depth = random.nextInt(6) == 0 ? 4 : 2;
        if (truth) {
            addTruth(words, depth, upperAlone, parameter);
        } else {
            addNumber(words, depth, upperAlone, parameter);
        }
        words.forEach(this::word);
        Object number = both("formula", m::formula, plain::formula);
        if (number instanceof Integer) {
            made.add((Integer) number);
        }
    }

    private void addTruth(List<Integer> words, int depth, boolean upperAlone, boolean parameter) {
        int pick = random.nextInt(depth > 0 ? 9 : 4);
        if (pick < 4) {
            words.add(53 + pick % 2);
            addNumber(words, depth - 1, upperAlone, parameter);
            addNumber(words, depth - 1, upperAlone, parameter);
        } else {
            words.add(pick < 8 ? 55 + pick % 2 : 57);
            addTruth(words, depth - 1, upperAlone, parameter);
            if (pick < 8) {
                addTruth(words, depth - 1, upperAlone, parameter);
            }
        }
    }

    private void addNumber(List<Integer> words, int depth, boolean upperAlone, boolean parameter) {
        int pick = random.nextInt(depth > 0 ? 14 : 10);
        if (pick < 4) {
            words.add(random.nextInt(15) == 0 ? 9 : random.nextInt(4));
        } else if (pick < 10) {
            words.add(parameter && pick < 7 ? 40 : 20 + random.nextInt(upperAlone ? 3 : 6));
        } else if (pick < 13) {
            words.add(40 + pick);
            addNumber(words, depth - 1, upperAlone, parameter);
            addNumber(words, depth - 1, upperAlone, parameter);
        } else {
            words.add(58);
            addTruth(words, depth - 1, upperAlone, parameter);
            addNumber(words, depth - 1, upperAlone, parameter);
            addNumber(words, depth - 1, upperAlone, parameter);
        }
    }

    private int pickOf(List<Integer> some) {
        if (some.isEmpty() || random.nextInt(25) == 0) {
            return random.nextInt(34) - 2;
        }
        return some.get(random.nextInt(some.size()));
    }

    private void event() {
        int machine = random.nextInt(30) == 0 ? random.nextInt(5) - 2 : random.nextInt(5) < 2 ? 0 : 1;
        int range = random.nextInt(20) == 0 ? random.nextInt(7) - 1 : 1 + random.nextInt(4);
        boolean isNew = machine == 0 || random.nextInt(3) == 0;
        int refined = isNew && random.nextInt(20) > 0 ? -1 : pickOf(upperEvents);
        Object number = both("event " + machine + " " + range + " " + refined,
                () -> m.event(machine, range, refined), () -> plain.event(machine, range, refined));
        if (number instanceof Integer) {
            (machine == 0 ? upperEvents : lowerEvents).add((Integer) number);
        }
    }

    private void change() {
        int pick = random.nextInt(20);
        int formula = pickOf(made);
        int event = pickOf(random.nextInt(3) == 0 ? upperEvents : lowerEvents);
        if (pick < 6) {
            both("guard " + event + " " + formula, () -> run(() -> m.guard(event, formula)),
                    () -> run(() -> plain.guard(event, formula)));
        } else if (pick < 14) {
            int variable = random.nextInt(8) - 1;
            both("assign " + event + " " + variable + " " + formula,
                    () -> run(() -> m.assign(event, variable, formula)),
                    () -> run(() -> plain.assign(event, variable, formula)));
        } else if (pick < 17) {
            both("witness " + event + " " + formula, () -> run(() -> m.witness(event, formula)),
                    () -> run(() -> plain.witness(event, formula)));
        } else if (pick < 18) {
            int machine = random.nextInt(10) == 0 ? random.nextInt(5) - 2 : random.nextInt(2);
            both("invariant " + machine + " " + formula,
                    () -> m.invariant(machine, formula), () -> plain.invariant(machine, formula));
        } else {
            both("variant " + formula, () -> run(() -> m.variant(formula)),
                    () -> run(() -> plain.variant(formula)));
        }
    }

    private void duty(int[] outcomes) {
        int kind = random.nextInt(30) == 0 ? random.nextInt(12) - 3 : random.nextInt(7);
        boolean alone = kind == 0 || kind == 6;
        int event = alone && random.nextInt(10) > 0 ? 0
                : pickOf(kind == 2 || kind == 1 && random.nextBoolean() ? upperEvents : lowerEvents);
        Object whole = both("done " + kind + " " + event,
                () -> m.done(kind, event), () -> plain.done(kind, event));
        outcomes[0] += whole.equals(true) ? 1 : 0;
        outcomes[1] += whole.equals(false) ? 1 : 0;
        if (random.nextInt(4) == 0) {
            both("open", m::open, plain::open);
        }
        for (int what = 0; what <= 6 && (whole.equals(false) || random.nextInt(4) == 0); what++) {
            int asked = what;
            both("broken " + asked, () -> m.broken(asked), () -> plain.broken(asked));
        }
    }

    private void stray() {
        int a = random.nextInt(80) - 10;
        both("word " + a, () -> m.word(a), () -> plain.word(a));
        both("broken " + a, () -> m.broken(a), () -> plain.broken(a));
        both("value " + a, () -> m.value(a), () -> plain.value(a));
        if (random.nextBoolean()) {
            both("formula", m::formula, plain::formula);
        }
    }

    private void step(int[] outcomes) {
        int event = pickOf(lowerEvents);
        int parameter = random.nextInt(10) == 0 ? random.nextInt(7) - 2 : random.nextInt(3);
        int pick = random.nextInt(10);
        if (pick < 2) {
            both("enabled " + event + " " + parameter,
                    () -> m.enabled(event, parameter), () -> plain.enabled(event, parameter));
        } else if (pick < 9) {
            Object steps = both("fire " + event + " " + parameter,
                    () -> m.fire(event, parameter), () -> plain.fire(event, parameter));
            outcomes[2] += steps instanceof Integer ? 1 : 0;
        } else {
            both("back", m::back, plain::back);
        }
        outcomes[3] += both("torn", m::torn, plain::torn).equals(true) ? 1 : 0;
        both("right", m::right, plain::right);
        int variable = random.nextInt(6);
        both("value " + variable, () -> m.value(variable), () -> plain.value(variable));
    }
}
