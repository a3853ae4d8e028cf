/** Promise 11: INSTRUCTIONS, HANDLERS and MARKS of a METHOD. */
public final class P11AboutTest {
    public static void main(String[] args) {
        Check c = new Check();
        StepMarks x = Check.of();
        about(c, x, 0, 0, 0, 1);
        x.instruction(0, Check.LOAD, 0, 0, 0);
        about(c, x, 0, 1, 0, 1);
        x.instruction(0, Check.MAKE, 0, 0, 0);
        about(c, x, 0, 2, 0, 2);
        x.instruction(0, Check.JUMP, 0, 0, 2);
        about(c, x, 0, 3, 0, 3);
        x.instruction(0, Check.JUMP_ABOVE, 0, 0, 0);
        about(c, x, 0, 4, 0, 4);
        x.instruction(0, Check.JUMP_ABOVE, 0, 0, 5);
        about(c, x, 0, 5, 0, 4);
        x.handler(0, 0, 0, 0, 0);
        about(c, x, 0, 5, 1, 5);
        for (int what : new int[] {-1, 3, Integer.MIN_VALUE, Integer.MAX_VALUE}) {
            c.due("what " + what, x.about(0, what), StepMarks.BAD);
        }
        for (int method : new int[] {-1, 1, Integer.MIN_VALUE, Integer.MAX_VALUE}) {
            c.due("method " + method, x.about(method, 0), StepMarks.BAD);
        }
        x.method();
        for (int n = 0; n < 40; n++) {
            x.instruction(1, Check.JUMP, 0, 0, n);
        }
        x.handler(1, 0, 0, 0, 0);
        about(c, x, 1, 40, 1, StepMarks.LARGE);
        c.due("BAD comes before LARGE", x.about(1, 3), StepMarks.BAD);
        about(c, x, 0, 5, 1, 5);
        c.end();
    }

    private static void about(Check c, StepMarks x, int method, int instructions, int handlers, int marks) {
        c.due("INSTRUCTIONS", x.about(method, 0), instructions);
        c.due("HANDLERS", x.about(method, 1), handlers);
        c.due("MARKS", x.about(method, 2), marks);
    }
}
