/** Calls by chance, from fixed seeds: each answer is held against the model's. */
public final class ModelTest {
    private static final int OBJECTS = 10000;
    private static final int CALLS = 512;
    private static final long[] EDGES = {0, 1, -1, 2, 3, 5, 7, 8, 40, 41, 127, 128, 198, 199, 200, 1L << 31, 1L << 32, (1L << 53) + 1,
        -(1L << 32), Long.MAX_VALUE, Long.MIN_VALUE, Integer.MIN_VALUE};

    private final long seed;
    private long state;
    private final StepMarks x = new StepMarks();
    private final Model model = new Model();
    private final StringBuilder log = new StringBuilder();
    private int calls = 0;
    private boolean wrong = false;
    /** How often runs ended in each way, and each THROW: so that chance is seen to have met all of them. */
    private static final int[] ends = new int[3];
    private static final int[] kinds = new int[9];
    private static final int[] most = new int[8];

    private ModelTest(long seed) {
        this.seed = seed;
        // another factor than the one below, or each seed would go on where the one before began
        this.state = seed * 0xD1342543DE82EF95L;
    }

    private int any(int below) {
        state += 0x9E3779B97F4A7C15L;
        long z = (state ^ (state >>> 30)) * 0xBF58476D1CE4E5B9L;
        z = (z ^ (z >>> 27)) * 0x94D049BB133111EBL;
        return (int) Math.floorMod(z ^ (z >>> 31), (long) below);
    }

    private void same(String call, long got, long due) {
        calls++;
        log.append(call).append(" = ").append(got).append('\n');
        if (got != due && !wrong) {
            wrong = true;
            System.out.println("seed " + seed + ":\n" + log + "the last is not as due: " + due);
        }
    }

    /** Mostly a right number, at times a wrong one. */
    private int near(int low, int high) {
        return any(60) == 0 ? (any(2) == 0 ? low - 1 - any(3) : high + 1 + any(3)) : low + any(high - low + 1);
    }

    private long number() {
        return any(3) == 0 ? EDGES[any(EDGES.length)] : any(12) - 3;
    }

    private int someMethod() {
        int count = model.methods.size();
        return any(40) == 0 || count == 0 ? any(9) - 1 : any(count);
    }

    private void addInstruction() {
        int m = someMethod();
        int size = m >= 0 && m < model.methods.size() ? model.methods.get(m).code.size() : 0;
        int act = near(0, 18);
        if (act == 14 && any(3) > 0) {
            act = any(6);
        }
        long v = switch (act) {
            case 6, 7 -> any(40) == 0 ? number() : any(3) == 0 ? Math.max(0, size - any(6)) : Math.min(40, size + 1 + any(4));
            case 8, 11 -> near(0, 6);
            case 13 -> near(0, 5);
            case 17, 18 -> near(0, 2);
            default -> number();
        };
        put(m, act, near(0, 3), near(0, 3), v);
    }

    private void put(int m, int act, int r, int s, long v) {
        same("instruction(" + m + ", " + act + ", " + r + ", " + s + ", " + v + ")", x.instruction(m, act, r, s, v),
            model.instruction(m, act, r, s, v));
    }

    /** A ROW that is made, and looked at: chance alone seldom gets so far. */
    private void addRow() {
        int m = someMethod();
        int size = any(4);
        int cells = any(4);
        put(m, 0, size, 0, 1 + any(4));
        put(m, 8, size, 0, any(3) == 0 ? any(7) : 5 + any(2));
        for (int n = any(5); n > 0; n--) {
            put(m, 0, cells, 0, any(5) - (any(4) == 0 ? 1 : 0));
            put(m, 9 + any(4), any(4), cells, any(7));
        }
    }

    /** A long round of what does not throw: few STEPS, many INSTRUCTIONS. */
    private void addRound() {
        int m = someMethod();
        int back = m >= 0 && m < model.methods.size() ? model.methods.get(m).code.size() : 0;
        for (int n = 12 + any(25); n > 0 && back < 30; n--) {
            put(m, any(30) == 0 ? 17 : any(4), 1 + any(3), any(4), any(9));
        }
        put(m, any(2) == 0 ? 6 : 7, any(4), 0, back);
    }

    private void addHandler() {
        int m = someMethod();
        int from = any(3) == 0 ? near(0, 40) : any(5);
        int to = any(3) == 0 ? near(0, 40) : Math.min(40, from + any(30));
        int at = any(3) == 0 ? near(0, 40) : any(15);
        int mask = any(4) == 0 ? any(2000) - 200 : any(3) == 0 ? 0x1FE : any(256) << 1;
        same("handler(" + m + ", " + from + ", " + to + ", " + at + ", " + mask + ")", x.handler(m, from, to, at, mask),
            model.handler(m, from, to, at, mask));
    }

    private void latest() {
        same("answer()", x.answer(), model.answer);
        for (int what = 0; what < 8; what++) {
            same("told(" + what + ")", x.told(what), model.tell(what));
        }
    }

    private void run() {
        int m = someMethod();
        long arg = number();
        int budget = any(3) == 0 ? near(0, 200) : any(2) == 0 ? 200 : any(40);
        int due = model.run(m, arg, budget);
        String call = "(" + m + ", " + arg + ", " + budget + ")";
        same("run" + call, x.run(m, arg, budget), due);
        latest();
        same("step" + call, x.step(m, arg, budget), due);
        latest();
        if (due >= 0) {
            ends[due]++;
            kinds[model.told[1]]++;
            for (int what = 0; what < 8; what++) {
                most[what] = Math.max(most[what], model.told[what]);
            }
        }
    }

    private void look() {
        int m = someMethod();
        switch (any(4)) {
            case 0 -> same("entries(" + m + ")", x.entries(m), model.entries(m));
            case 1 -> {
                int what = near(0, 2);
                same("about(" + m + ", " + what + ")", x.about(m, what), model.about(m, what));
            }
            case 2 -> {
                int i = near(0, 70);
                int what = near(0, 2);
                same("entry(" + m + ", " + i + ", " + what + ")", x.entry(m, i, what), model.entry(m, i, what));
            }
            default -> {
                int what = near(0, 7);
                same("told(" + what + ")", x.told(what), model.tell(what));
            }
        }
    }

    /** All ENTRIES of a METHOD at once. */
    private void lookAtAll() {
        int m = someMethod();
        for (int i = 0; i < Math.min(71, model.entries(m)); i++) {
            for (int what = 0; what < 3; what++) {
                same("entry(" + m + ", " + i + ", " + what + ")", x.entry(m, i, what), model.entry(m, i, what));
            }
        }
    }

    private boolean holds() {
        int rounds = 0;
        int builds = 20 + any(200);
        while (calls < CALLS - 260 && !wrong && rounds++ < 2000) {
            int choice = any(100);
            if (choice < 3) {
                addRow();
            } else if (choice < 4) {
                addRound();
            } else if (calls < builds ? choice < 75 : choice < 30) {
                addInstruction();
            } else if (choice < 80) {
                addHandler();
            } else if (choice < 86) {
                same("method()", x.method(), model.method());
            } else if (choice < 96) {
                run();
            } else if (choice < 99) {
                look();
            } else if (any(4) == 0) {
                same("clear()", x.clear(), model.clear());
            }
        }
        lookAtAll();
        run();
        return !wrong;
    }

    private static boolean metAll() {
        boolean met = true;
        for (int end : ends) {
            met &= end > 100;
        }
        for (int kind : kinds) {
            met &= kind > 50;
        }
        return met && most[0] == 200 && most[3] == 12 && most[4] == 30 && most[7] == 2000;
    }

    public static void main(String[] args) {
        int objects = args.length > 0 ? Integer.parseInt(args[0]) : OBJECTS;
        int bad = 0;
        long calls = 0;
        for (long seed = 1; seed <= objects && bad < 3; seed++) {
            ModelTest test = new ModelTest(seed);
            bad += test.holds() ? 0 : 1;
            calls += test.calls;
        }
        System.out.println(calls + " answers, " + bad + " objects with one not as due; ends " + java.util.Arrays.toString(ends)
            + ", throws " + java.util.Arrays.toString(kinds) + ", most told " + java.util.Arrays.toString(most));
        if (bad != 0 || !metAll()) {
            System.out.println(bad != 0 ? "answers are not as due" : "chance did not meet all");
            System.exit(1);
        }
    }
}
