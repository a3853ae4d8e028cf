/** Promise 6: step(): all that promise 5 has tests for, by the stepper; and both beside one another. */
public final class P06StepTest extends Check {
    public static void main(String[] args) {
        promise(6, true);
        P05RefusedTest.all();
        P05FramesTest.all();
        P05ReckonTest.all();
        P05JumpsTest.all();
        P05RowsTest.all();
        P05ThrowsTest.all();
        P05GuardsTest.all();
        P05StepsTest.all();
        P05StopTest.all();
        holds("As run(): with each BUDGET (0 .. 200) it ends alike", P06StepTest::eachBudget);
        holds("As run(): one after the other, neither leaves anything to the other", P06StepTest::inTurn);
        end();
    }

    /** Of all that is counted there is something: FRAMES, JUMPS back, HANDLERS, MAKES. */
    private static StepMarks ofAll() {
        StepMarks x = of(load(1, 1), hold(0), make(0, SHORTS), call(2, 1), count(3), less(0, 1), jumpAbove(0, 2), throwOwn(1), gives(3));
        handler(x, 0, 3, 4, 4, 1 << OWN);
        handler(x, 0, 7, 8, 8, ALL);
        more(x, make(0, RICH), hold(2), load(1, 7), put(1, 0), throwOwn(1));
        handler(x, 1, 3, 4, 4, 1 << INDEX);
        return x;
    }

    private static void eachBudget() {
        int stopped = 0;
        for (int budget = 0; budget <= 200; budget++) {
            StepMarks x = ofAll();
            int outcome = x.run(0, 6, budget);
            int[] told = new int[8];
            for (int what = 0; what < 8; what++) {
                told[what] = x.told(what);
            }
            long answer = x.answer();
            due("step by " + budget, x.step(0, 6, budget), outcome);
            latest(x, "step by " + budget, answer, told);
            stopped += outcome == STOPPED ? 1 : 0;
        }
        due("some are stopped", stopped > 20 && stopped < 180 ? 1 : 0, 1);
    }

    private static void inTurn() {
        StepMarks x = of(jumpAbove(0, 5), again(), let(0), count(1), gives(2), load(2, 9), hold(0), make(2, LONGS), over(1, 3));
        handler(x, 0, 8, 9, 40, ALL);
        for (int n = 0; n < 3; n++) {
            due("run", x.run(0, 1, 200), RETURNED);
            due("step", x.step(0, 0, 200), THREW);
            latest(x, "step", 0, 1, STATE, 0, 1, 0, 0, 0, 2);
            due("step", x.step(0, 1, 200), RETURNED);
            due("run", x.run(0, 0, 200), THREW);
            latest(x, "run", 0, 1, STATE, 0, 1, 0, 0, 0, 2);
        }
    }
}
