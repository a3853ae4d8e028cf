/** Promise 10: SORT, number and goal of each ENTRY. */
public final class P10EntryTest {
    public static void main(String[] args) {
        Check c = new Check();
        StepMarks x = Check.of(
            Check.i(Check.MAKE, 2, 0, 0), Check.i(Check.JUMP, 0, 0, 3), Check.i(Check.JUMP_ABOVE, 0, 0, 0), Check.i(Check.MAKE, 3, 1, 6),
            Check.i(Check.JUMP, 0, 0, 4), Check.i(Check.JUMP_ABOVE, 0, 0, 40), Check.i(Check.CALL, 0, 0, 2));
        x.handler(0, 0, 1, 3, 2);
        x.handler(0, 0, 1, 40, 4);
        int none = StepMarks.NONE;
        int[][] due = {
            {1, 0, none},
            {2, 2, none}, {0, 0, none},
            {0, 1, 5},
            {0, 2, 11},
            {2, 3, none}, {0, 3, none},
            {0, 4, 13},
            {0, 5, 10},
            {0, 6, none},
            {0, 7, none},
            {1, 0, none}, {3, 1, 1},
            {1, 0, none}, {3, 7, 7},
            {1, 0, none}, {3, 5, 5},
            {1, 0, none}, {3, 10, 10},
        };
        c.due("entries", x.entries(0), due.length);
        for (int i = 0; i < due.length; i++) {
            for (int what = 0; what < 3; what++) {
                c.due("entry(0, " + i + ", " + what + ")", x.entry(0, i, what), due[i][what]);
            }
        }
        for (int i : new int[] {-1, due.length, 69, 70, 71, Integer.MIN_VALUE, Integer.MAX_VALUE}) {
            for (int what = 0; what < 3; what++) {
                c.due("no ENTRY " + i, x.entry(0, i, what), none);
            }
        }
        wrong(c, x);
        later(c);
        c.end();
    }

    private static void wrong(Check c, StepMarks x) {
        c.due("what -1", x.entry(0, 0, -1), StepMarks.BAD);
        c.due("what 3", x.entry(0, 0, 3), StepMarks.BAD);
        c.due("BAD comes before NONE", x.entry(0, -1, 3), StepMarks.BAD);
        c.due("method -1", x.entry(-1, 0, 0), StepMarks.BAD);
        c.due("method 1", x.entry(1, 0, 0), StepMarks.BAD);
        int large = x.method();
        for (int n = 0; n < 40; n++) {
            x.instruction(large, Check.JUMP, 0, 0, 0);
        }
        c.due("LARGE", x.entry(large, 0, 0), StepMarks.LARGE);
        c.due("LARGE comes before NONE", x.entry(large, -1, 0), StepMarks.LARGE);
        c.due("BAD comes before LARGE", x.entry(large, 0, 3), StepMarks.BAD);
    }

    /** INSTRUCTIONS that come later are met by JUMPS that were told before them. */
    private static void later(Check c) {
        StepMarks x = Check.of(Check.i(Check.JUMP, 0, 0, 2));
        c.due("to the RETURN 0", x.entry(0, 1, 2), 2);
        x.instruction(0, Check.LOAD, 0, 0, 0);
        c.due("to the RETURN 0", x.entry(0, 1, 2), 3);
        x.instruction(0, Check.MAKE, 0, 0, 0);
        c.due("to the MARK CELLS", x.entry(0, 1, 2), 3);
        c.due("MARK CELLS", x.entry(0, 3, 0), 2);
        x.instruction(0, Check.LOAD, 0, 0, 0);
        c.due("as before", x.entry(0, 1, 2), 3);
    }
}
