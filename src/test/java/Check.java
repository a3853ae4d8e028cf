/**
 * What all tests share: each case is named by its promise and holds one sentence of the document.
 * A test extends this class, as classes without a package cannot be imported.
 */
class Check {
    static final int NONE = -1, BAD = -2, FULL = -3, LARGE = -4;
    static final int BYTES = 0, SHORTS = 1, INTS = 2, LONGS = 3, DOUBLES = 4, THINGS = 5, RICH = 6;
    static final int NULL = 1, INDEX = 2, SIZE = 3, STORE = 4, CAST = 5, ZERO = 6, STATE = 7, OWN = 8;
    static final int ALL = 0x1FE;
    static final int RETURNED = 0, STOPPED = 1, THREW = 2;
    static final int JUMP = 6, JUMP_ABOVE = 7, MAKE = 8, IS_OF = 11, CALL = 13, HOLD = 17, LET = 18;
    static final long LEAST = Long.MIN_VALUE, MOST = Long.MAX_VALUE;

    private static String promise = "";
    private static boolean byStepper = false;
    private static int cases = 0;
    private static int failed = 0;
    private static int answers = 0;
    private static int wrong = 0;

    /** All cases that follow are of this promise; runs are made by run(), or by step(). */
    static void promise(int number, boolean stepper) {
        promise = String.format("P%02d", number);
        byStepper = stepper;
    }

    static void promise(int number) {
        promise(number, false);
    }

    /** One sentence of the document, with the test that fails if it is broken. */
    static void holds(String sentence, Runnable test) {
        int before = wrong;
        int had = answers;
        try {
            test.run();
        } catch (RuntimeException | StackOverflowError e) {
            wrong++;
            System.out.println("  a call threw " + e);
        }
        boolean held = wrong == before && answers > had;
        cases++;
        failed += held ? 0 : 1;
        System.out.println(promise + (held ? " holds: " : " IS BROKEN: ") + sentence);
    }

    static void due(String call, long got, long want) {
        answers++;
        if (got != want) {
            wrong++;
            System.out.println("  " + call + " answered " + got + ", due is " + want);
        }
    }

    static void end() {
        System.out.println(cases + " cases, " + answers + " answers; " + failed + " cases are broken");
        if (failed != 0 || cases == 0) {
            System.exit(1);
        }
    }

    // INSTRUCTIONS, each as act, r, s, v

    static long[] i(int act, int r, int s, long v) {
        return new long[] {act, r, s, v};
    }

    static long[] load(int r, long v) {
        return i(0, r, 0, v);
    }

    static long[] add(int r, int s) {
        return i(1, r, s, 0);
    }

    static long[] less(int r, int s) {
        return i(2, r, s, 0);
    }

    static long[] times(int r, int s) {
        return i(3, r, s, 0);
    }

    static long[] over(int r, int s) {
        return i(4, r, s, 0);
    }

    static long[] rest(int r, int s) {
        return i(5, r, s, 0);
    }

    static long[] jump(int place) {
        return i(JUMP, 0, 0, place);
    }

    static long[] jumpAbove(int r, int place) {
        return i(JUMP_ABOVE, r, 0, place);
    }

    static long[] make(int r, int lane) {
        return i(MAKE, r, 0, lane);
    }

    static long[] get(int r, int s) {
        return i(9, r, s, 0);
    }

    static long[] put(int r, int s) {
        return i(10, r, s, 0);
    }

    static long[] isOf(int lane) {
        return i(IS_OF, 0, 0, lane);
    }

    static long[] count(int r) {
        return i(12, r, 0, 0);
    }

    static long[] call(int r, int method) {
        return i(CALL, r, 0, method);
    }

    static long[] gives(int r) {
        return i(14, r, 0, 0);
    }

    static long[] throwOwn(int r) {
        return i(15, r, 0, 0);
    }

    static long[] again() {
        return i(16, 0, 0, 0);
    }

    static long[] hold(int guard) {
        return i(HOLD, 0, 0, guard);
    }

    static long[] let(int guard) {
        return i(LET, 0, 0, guard);
    }

    // objects

    /** A new object with one METHOD of these INSTRUCTIONS. */
    static StepMarks of(long[]... instructions) {
        StepMarks x = new StepMarks();
        more(x, instructions);
        return x;
    }

    /** A METHOD more, of these INSTRUCTIONS. */
    static int more(StepMarks x, long[]... instructions) {
        int method = x.method();
        for (long[] one : instructions) {
            fill(x, method, one, 1);
        }
        return method;
    }

    /** The same INSTRUCTION so many times more. */
    static void fill(StepMarks x, int method, long[] one, int times) {
        for (int n = 0; n < times; n++) {
            if (x.instruction(method, (int) one[0], (int) one[1], (int) one[2], one[3]) < 0) {
                throw new IllegalStateException("an instruction of a test was refused");
            }
        }
    }

    static void handler(StepMarks x, int method, int from, int to, int at, int mask) {
        if (x.handler(method, from, to, at, mask) < 0) {
            throw new IllegalStateException("a handler of a test was refused");
        }
    }

    /** A METHOD more that is TOO LARGE: each of its JUMPS leads back. */
    static int moreLarge(StepMarks x) {
        int method = x.method();
        fill(x, method, jump(0), 40);
        return method;
    }

    // runs

    static int go(StepMarks x, int method, long arg, int budget) {
        return byStepper ? x.step(method, arg, budget) : x.run(method, arg, budget);
    }

    private static String goName(int method, long arg, int budget) {
        return (byStepper ? "step(" : "run(") + method + ", " + arg + ", " + budget + ")";
    }

    /** How METHOD 0 ends, what it answers, and told(0), told(1), .. as far as they are given. */
    static void ends(StepMarks x, long arg, int budget, int outcome, long answer, int... told) {
        endsOf(x, 0, arg, budget, outcome, answer, told);
    }

    static void endsOf(StepMarks x, int method, long arg, int budget, int outcome, long answer, int... told) {
        String call = goName(method, arg, budget);
        due(call, go(x, method, arg, budget), outcome);
        latest(x, call, answer, told);
    }

    static void latest(StepMarks x, String call, long answer, int... told) {
        due("answer() of " + call, x.answer(), answer);
        for (int what = 0; what < told.length; what++) {
            due("told(" + what + ") of " + call, x.told(what), told[what]);
        }
    }

    /** METHOD 0 RETURNS this. */
    static void returns(StepMarks x, long arg, long answer) {
        ends(x, arg, 200, RETURNED, answer);
        due("told(1) with " + arg, x.told(1), 0);
    }

    /** METHOD 0 ends in a THROW of this kind, with this number. */
    static void throwsKind(StepMarks x, long arg, int kind, int number) {
        ends(x, arg, 200, THREW, 0);
        due("told(1) with " + arg, x.told(1), kind);
        due("told(2) with " + arg, x.told(2), number);
    }

    /** METHOD 0 meets THE STOP with this BUDGET, and RETURNS with 1 more. */
    static void needs(StepMarks x, long arg, int budget) {
        due(goName(0, arg, budget - 1), go(x, 0, arg, budget - 1), STOPPED);
        due(goName(0, arg, budget), go(x, 0, arg, budget), RETURNED);
        due("told(0) of it", x.told(0), budget);
    }

    // what does not change

    /** All that can be asked without changing anything. */
    static String state(StepMarks x) {
        StringBuilder all = new StringBuilder();
        all.append(x.answer());
        for (int what = 0; what < 8; what++) {
            all.append(' ').append(x.told(what));
        }
        for (int m = 0; m < 6 && x.about(m, 0) >= 0; m++) {
            all.append('\n').append(x.about(m, 0)).append(' ').append(x.about(m, 1)).append(' ').append(x.about(m, 2)).append(" :");
            int entries = x.entries(m);
            for (int at = 0; at < entries; at++) {
                for (int what = 0; what < 3; what++) {
                    all.append(' ').append(x.entry(m, at, what));
                }
            }
        }
        return all.toString();
    }

    static void same(String what, String now, String before) {
        answers++;
        if (!now.equals(before)) {
            wrong++;
            System.out.println("  " + what + " is changed from\n" + before + "\nto\n" + now);
        }
    }
}
