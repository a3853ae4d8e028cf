/** Promise 9: how many ENTRIES there are, and from which number on they are LARGE. */
public final class P09EntriesTest {
    public static void main(String[] args) {
        Check c = new Check();
        StepMarks x = Check.of();
        c.due("a MARK and the RETURN 0", x.entries(0), 2);
        x.instruction(0, Check.LOAD, 0, 0, 0);
        c.due("an INSTRUCTION", x.entries(0), 3);
        x.instruction(0, Check.MAKE, 0, 0, 0);
        c.due("a MAKE", x.entries(0), 5);
        x.instruction(0, Check.JUMP, 0, 0, 3);
        c.due("a JUMP on", x.entries(0), 6);
        x.instruction(0, Check.JUMP_ABOVE, 0, 0, 3);
        c.due("a JUMP to its own PLACE", x.entries(0), 9);
        x.instruction(0, Check.JUMP, 0, 0, 0);
        c.due("a JUMP back", x.entries(0), 12);
        x.handler(0, 0, 1, 2, 2);
        c.due("a HANDLER", x.entries(0), 14);
        for (int method : new int[] {-1, 1, 6, Integer.MIN_VALUE, Integer.MAX_VALUE}) {
            c.due("entries of " + method, x.entries(method), StepMarks.BAD);
        }
        edge(c);
        c.end();
    }

    /** 40 INSTRUCTIONS with 10 JUMPS back and 4 HANDLERS are 2 + 40 + 20 + 8 = 70: the most. */
    private static void edge(Check c) {
        StepMarks x = Check.of();
        for (int n = 0; n < 10; n++) {
            x.instruction(0, Check.JUMP_ABOVE, 0, 0, n);
        }
        for (int n = 0; n < 28; n++) {
            x.instruction(0, Check.LOAD, 1, 0, n);
        }
        for (int n = 0; n < 4; n++) {
            x.handler(0, n, n, n, 2);
        }
        c.due("68", x.entries(0), 68);
        x.instruction(0, Check.LOAD, 1, 0, 0);
        int method = x.method();
        c.due("69", x.entries(0), 69);
        x.instruction(0, Check.RETURN, 1, 0, 0);
        c.due("70", x.entries(0), 70);
        c.both(x, 0, 0, 200, Check.RETURNED, 0, 1, 0, 0, 1, 0, 0, 0, 40);
        c.due("the other", x.entries(method), 2);
        handlersToo(c);
        StepMarks y = Check.of();
        for (int n = 0; n < 34; n++) {
            y.instruction(0, Check.MAKE, 0, 0, 0);
        }
        c.due("70 with MAKES", y.entries(0), 70);
        y.instruction(0, Check.LOAD, 0, 0, 0);
        c.due("71", y.entries(0), StepMarks.LARGE);
        c.due("71", y.run(0, 0, 200), StepMarks.LARGE);
    }

    /** 37 INSTRUCTIONS with 14 JUMPS back are 2 + 37 + 28 = 67; each HANDLER has 2 more. */
    private static void handlersToo(Check c) {
        StepMarks x = Check.of();
        for (int n = 0; n < 14; n++) {
            x.instruction(0, Check.JUMP, 0, 0, 0);
        }
        for (int n = 0; n < 23; n++) {
            x.instruction(0, Check.LOAD, 1, 0, n);
        }
        c.due("67", x.entries(0), 67);
        x.handler(0, 0, 0, 0, 0);
        c.due("69", x.entries(0), 69);
        c.due("a HANDLER more is told its number all the same", x.handler(0, 0, 0, 0, 0), 1);
        c.due("71", x.entries(0), StepMarks.LARGE);
    }
}
