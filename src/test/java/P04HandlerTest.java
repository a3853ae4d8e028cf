/** Promise 4: a HANDLER more, what is BAD of it, FULL, and which of them takes a THROW. */
public final class P04HandlerTest {
    private static final Check c = new Check();

    public static void main(String[] args) {
        wrongNumbers();
        full();
        range();
        order();
        masks();
        places();
        c.end();
    }

    private static void wrongNumbers() {
        StepMarks x = Check.of();
        c.due("method -1", x.handler(-1, 0, 1, 0, 2), StepMarks.BAD);
        c.due("method 1", x.handler(1, 0, 1, 0, 2), StepMarks.BAD);
        for (int wrong : new int[] {-1, 41, Integer.MIN_VALUE, Integer.MAX_VALUE}) {
            c.due("from", x.handler(0, wrong, 1, 0, 2), StepMarks.BAD);
            c.due("to", x.handler(0, 0, wrong, 0, 2), StepMarks.BAD);
            c.due("at", x.handler(0, 0, 1, wrong, 2), StepMarks.BAD);
        }
        for (int mask : new int[] {1, 3, 512, 511, 1022, -1, Integer.MIN_VALUE}) {
            c.due("mask " + mask, x.handler(0, 0, 1, 0, mask), StepMarks.BAD);
        }
        c.due("nothing changed", x.about(0, 1), 0);
    }

    private static void full() {
        StepMarks x = Check.of();
        c.due("edges", x.handler(0, 0, 40, 40, Check.ALL), 0);
        c.due("edges", x.handler(0, 40, 0, 0, 2), 1);
        c.due("an empty mask", x.handler(0, 0, 0, 0, 0), 2);
        c.due("a 4th", x.handler(0, 1, 2, 3, 256), 3);
        c.due("a 5th", x.handler(0, 1, 2, 3, 256), StepMarks.FULL);
        c.due("BAD comes before FULL", x.handler(0, 1, 2, 3, 1), StepMarks.BAD);
        c.due("HANDLERS", x.about(0, 1), 4);
    }

    /** From is with, to is not with. */
    private static void range() {
        for (int from = 0; from <= 3; from++) {
            for (int to = 0; to <= 3; to++) {
                StepMarks x = Check.of(Check.i(Check.LOAD, 1, 0, 5), Check.i(Check.THROW, 1, 0, 0), Check.i(Check.LOAD, 0, 0, 9));
                x.handler(0, from, to, 40, Check.ALL);
                boolean taken = from <= 1 && 1 < to;
                c.both(x, 0, 0, 200, taken ? Check.RETURNED : Check.THREW, 0,
                    taken ? 2 : 1, taken ? 0 : 8, taken ? 0 : 5, 1, taken ? 1 : 0, 0, 0, taken ? 3 : 2);
            }
        }
    }

    private static void order() {
        StepMarks x = Check.of(Check.i(Check.THROW, 0, 0, 0),
            Check.i(Check.LOAD, 1, 0, 11), Check.i(Check.RETURN, 1, 0, 0),
            Check.i(Check.LOAD, 1, 0, 22), Check.i(Check.RETURN, 1, 0, 0));
        x.handler(0, 0, 1, 1, Check.ALL & ~256);
        x.handler(0, 0, 1, 3, 256);
        x.handler(0, 0, 1, 1, 256);
        c.gives(x, 0, 22);
    }

    /** Only the bit of its number takes a THROW. */
    private static void masks() {
        for (int kind = 1; kind <= 8; kind++) {
            StepMarks x = Check.of(Check.i(Check.LOAD, 1, 0, 0), Check.i(Check.OVER, 0, 1, 0));
            x.handler(0, 0, 2, 2, 1 << kind);
            c.due("ZERO by the bit " + kind, x.run(0, 1, 200), kind == Check.ZERO ? Check.RETURNED : Check.THREW);
            StepMarks y = Check.of(Check.i(Check.COUNT, 0, 0, 0));
            y.handler(0, 0, 2, 1, 1 << kind);
            c.due("NULL by the bit " + kind, y.step(0, 1, 200), kind == Check.NULL ? Check.RETURNED : Check.THREW);
        }
    }

    /** At is looked at when it is run: INSTRUCTIONS that came later are there. */
    private static void places() {
        StepMarks x = Check.of(Check.i(Check.THROW, 0, 0, 0));
        x.handler(0, 0, 1, 2, Check.ALL);
        c.gives(x, 7, 0);
        x.instruction(0, Check.RETURN, 0, 0, 0);
        c.gives(x, 7, 0);
        x.instruction(0, Check.LOAD, 0, 0, 5);
        x.instruction(0, Check.RETURN, 0, 0, 0);
        c.gives(x, 7, 5);
    }
}
