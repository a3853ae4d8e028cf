/** Promise 6: step() answers as run() does; what it refuses, and what is told of it. */
public final class P06StepTest {
    public static void main(String[] args) {
        Check c = new Check();
        StepMarks x = Check.of(Check.i(Check.LOAD, 1, 0, 1), Check.i(Check.MAKE, 0, 0, 2), Check.i(Check.LESS, 0, 1, 0),
            Check.i(Check.JUMP_ABOVE, 0, 0, 1), Check.i(Check.COUNT, 0, 0, 0), Check.i(Check.RETURN, 0, 0, 0));
        c.due("step", x.step(0, 3, 200), Check.RETURNED);
        c.latest(x, "step", 1, 1 + 4 + 1 + 3 + 1 + 2, 0, 0, 1, 0, 3, 0, 1 + 9 + 2);
        for (int method : new int[] {-1, 1, 6, Integer.MIN_VALUE, Integer.MAX_VALUE}) {
            c.due("step of " + method, x.step(method, 1, 10), StepMarks.BAD);
        }
        for (int budget : new int[] {-1, 201, Integer.MIN_VALUE, Integer.MAX_VALUE}) {
            c.due("budget " + budget, x.step(0, 1, budget), StepMarks.BAD);
        }
        c.latest(x, "nothing changed", 1, 12, 0, 0, 1, 0, 3, 0, 12);
        // each BUDGET stops both at the same step
        for (int budget = 0; budget <= 14; budget++) {
            int run = x.run(0, 3, budget);
            int[] told = new int[8];
            for (int what = 0; what < 8; what++) {
                told[what] = x.told(what);
            }
            long answer = x.answer();
            c.due("run by " + budget, run, budget < 12 ? Check.STOPPED : Check.RETURNED);
            c.due("step by " + budget, x.step(0, 3, budget), run);
            c.latest(x, "step by " + budget, answer, told);
        }
        c.end();
    }
}
