/** Counts the answers that are not as due, and ends a test with exit code 1 if there was one. */
final class Check {
    static final int LOAD = 0, ADD = 1, LESS = 2, TIMES = 3, OVER = 4, REST = 5, JUMP = 6, JUMP_ABOVE = 7;
    static final int MAKE = 8, GET = 9, PUT = 10, IS_OF = 11, COUNT = 12, CALL = 13, RETURN = 14;
    static final int THROW = 15, AGAIN = 16, HOLD = 17, LET = 18;
    static final int BYTES = 0, SHORTS = 1, INTS = 2, LONGS = 3, DOUBLES = 4, THINGS = 5, RICH = 6;
    static final int NULL = 1, INDEX = 2, SIZE = 3, STORE = 4, CAST = 5, ZERO = 6, STATE = 7, OWN = 8;
    static final int ALL = 0x1FE;
    static final int RETURNED = 0, STOPPED = 1, THREW = 2;

    private int calls = 0;
    private int wrong = 0;

    void due(String call, long got, long want) {
        calls++;
        if (got != want) {
            wrong++;
            System.out.println(call + " answered " + got + ", due is " + want);
        }
    }

    /** A new object with one METHOD of these INSTRUCTIONS, each told as act, r, s, v. */
    static StepMarks of(long[]... instructions) {
        StepMarks x = new StepMarks();
        add(x, instructions);
        return x;
    }

    /** A METHOD more, of these INSTRUCTIONS. */
    static int add(StepMarks x, long[]... instructions) {
        int method = x.method();
        for (long[] i : instructions) {
            if (x.instruction(method, (int) i[0], (int) i[1], (int) i[2], i[3]) < 0) {
                throw new IllegalStateException("an instruction of a test was refused");
            }
        }
        return method;
    }

    static long[] i(int act, int r, int s, long v) {
        return new long[] {act, r, s, v};
    }

    /** Both run() and step(): how it ends, what it answers, and told(0), told(1), .. as far as they are given. */
    void both(StepMarks x, int method, long arg, int budget, int outcome, long answer, int... told) {
        String call = "(" + method + ", " + arg + ", " + budget + ")";
        due("run" + call, x.run(method, arg, budget), outcome);
        latest(x, "run" + call, answer, told);
        due("step" + call, x.step(method, arg, budget), outcome);
        latest(x, "step" + call, answer, told);
    }

    void latest(StepMarks x, String call, long answer, int... told) {
        due("answer() of " + call, x.answer(), answer);
        for (int what = 0; what < told.length; what++) {
            due("told(" + what + ") of " + call, x.told(what), told[what]);
        }
    }

    /** Ends in a THROW of this kind, with this number. */
    void throwsKind(StepMarks x, long arg, int kind, int number) {
        due("run with " + arg, x.run(0, arg, 200), THREW);
        due("told(1) with " + arg, x.told(1), kind);
        due("told(2) with " + arg, x.told(2), number);
        due("step with " + arg, x.step(0, arg, 200), THREW);
        due("told(1) with " + arg, x.told(1), kind);
        due("told(2) with " + arg, x.told(2), number);
    }

    /** Returns this answer. */
    void gives(StepMarks x, long arg, long answer) {
        both(x, 0, arg, 200, RETURNED, answer);
    }

    void end() {
        System.out.println(calls + " answers, " + wrong + " of them not as due");
        if (wrong != 0 || calls == 0) {
            System.exit(1);
        }
    }
}
