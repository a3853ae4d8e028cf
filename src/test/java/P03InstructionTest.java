/** Promise 3: an INSTRUCTION more, what is BAD of it, and FULL. */
public final class P03InstructionTest {
    private static final Check c = new Check();

    public static void main(String[] args) {
        wrongNumbers();
        eachAct();
        numbersOfActs();
        full();
        c.end();
    }

    private static void wrongNumbers() {
        StepMarks x = Check.of();
        c.due("method -1", x.instruction(-1, 0, 0, 0, 0), StepMarks.BAD);
        c.due("method 1", x.instruction(1, 0, 0, 0, 0), StepMarks.BAD);
        c.due("method least", x.instruction(Integer.MIN_VALUE, 0, 0, 0, 0), StepMarks.BAD);
        c.due("method most", x.instruction(Integer.MAX_VALUE, 0, 0, 0, 0), StepMarks.BAD);
        c.due("act -1", x.instruction(0, -1, 0, 0, 0), StepMarks.BAD);
        c.due("act 19", x.instruction(0, 19, 0, 0, 0), StepMarks.BAD);
        for (int act = 0; act <= 18; act++) {
            c.due("r -1", x.instruction(0, act, -1, 0, 0), StepMarks.BAD);
            c.due("r 4", x.instruction(0, act, 4, 0, 0), StepMarks.BAD);
            c.due("s -1", x.instruction(0, act, 0, -1, 0), StepMarks.BAD);
            c.due("s 4", x.instruction(0, act, 0, 4, 0), StepMarks.BAD);
        }
        c.due("nothing changed", x.about(0, 0), 0);
    }

    private static void eachAct() {
        StepMarks x = Check.of();
        for (int act = 0; act <= 18; act++) {
            c.due("act " + act, x.instruction(0, act, act % 4, 3 - act % 4, 0), act);
        }
        c.due("INSTRUCTIONS", x.about(0, 0), 19);
    }

    private static void numbersOfActs() {
        for (int act = 0; act <= 18; act++) {
            long most = mostNumber(act);
            StepMarks x = Check.of();
            boolean free = most == Long.MAX_VALUE;
            c.due("v most of " + act, x.instruction(0, act, 0, 0, most), 0);
            c.due("v 0 of " + act, x.instruction(0, act, 0, 0, 0), 1);
            c.due("v -1 of " + act, x.instruction(0, act, 0, 0, -1), free ? 2 : StepMarks.BAD);
            c.due("v least of " + act, x.instruction(0, act, 0, 0, Long.MIN_VALUE), free ? 3 : StepMarks.BAD);
            if (!free) {
                c.due("v above most of " + act, x.instruction(0, act, 0, 0, most + 1), StepMarks.BAD);
                c.due("all of v of " + act, x.instruction(0, act, 0, 0, 1L << 32), StepMarks.BAD);
                c.due("nothing changed", x.about(0, 0), 2);
            }
        }
    }

    private static long mostNumber(int act) {
        switch (act) {
            case 6: case 7: return 40;
            case 8: case 11: return 6;
            case 13: return 5;
            case 17: case 18: return 2;
            default: return Long.MAX_VALUE;
        }
    }

    private static void full() {
        StepMarks x = Check.of();
        for (int place = 0; place < 40; place++) {
            c.due("place", x.instruction(0, Check.LOAD, 0, 0, place), place);
        }
        c.due("a 41st", x.instruction(0, Check.LOAD, 0, 0, 0), StepMarks.FULL);
        c.due("BAD comes before FULL: act", x.instruction(0, 19, 0, 0, 0), StepMarks.BAD);
        c.due("BAD comes before FULL: v", x.instruction(0, Check.JUMP, 0, 0, 41), StepMarks.BAD);
        c.due("INSTRUCTIONS", x.about(0, 0), 40);
        c.due("another METHOD", x.method(), 1);
        c.due("has its own", x.instruction(1, Check.LOAD, 0, 0, 0), 0);
    }
}
