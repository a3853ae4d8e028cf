/** Promise 8: what is told of the latest run(), step(). */
public final class P08ToldTest {
    public static void main(String[] args) {
        Check c = new Check();
        StepMarks x = Check.of(
            Check.i(Check.HOLD, 0, 0, 0), Check.i(Check.HOLD, 0, 0, 1), Check.i(Check.CALL, 0, 0, 1), Check.i(Check.LET, 0, 0, 0),
            Check.i(Check.LET, 0, 0, 0), Check.i(Check.LOAD, 1, 0, 3), Check.i(Check.MAKE, 1, 0, 3), Check.i(Check.THROW, 1, 0, 0));
        x.handler(0, 4, 5, 5, 1 << Check.STATE);
        Check.add(x, Check.i(Check.HOLD, 0, 0, 2), Check.i(Check.MAKE, 0, 0, 1), Check.i(Check.RETURN, 0, 0, 0));
        wrong(c, x);
        c.latest(x, "before any", 0, 0, 0, 0, 0, 0, 0, 0, 0);
        c.both(x, 0, 2, 200, Check.THREW, 0, 1 + 1 + 3 + 1 + 4, 8, 3, 2, 1, 2, 3, 8 + 3);
        wrong(c, x);
        // nothing is left of the run before
        c.both(x, 1, 0, 200, Check.RETURNED, 0, 2, 0, 0, 1, 0, 1, 1, 3);
        c.both(x, 1, -1, 200, Check.THREW, 0, 2, 3, 0, 1, 0, 0, 1, 2);
        c.both(x, 1, 1, 0, Check.STOPPED, 0, 0, 0, 0, 0, 0, 0, 0, 0);
        // GUARDS at a time, not in all
        StepMarks y = Check.of();
        for (int n = 0; n < 10; n++) {
            y.instruction(0, Check.HOLD, 0, 0, 1);
            y.instruction(0, Check.HOLD, 0, 0, 2);
            y.instruction(0, Check.LET, 0, 0, 1);
            y.instruction(0, Check.LET, 0, 0, 2);
        }
        c.both(y, 0, 0, 1, Check.RETURNED, 0, 1, 0, 0, 1, 0, 0, 2, 41);
        c.end();
    }

    private static void wrong(Check c, StepMarks x) {
        for (int what : new int[] {-1, 8, Integer.MIN_VALUE, Integer.MAX_VALUE}) {
            c.due("told " + what, x.told(what), StepMarks.BAD);
        }
    }
}
