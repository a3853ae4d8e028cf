/** Promise 12: no METHODS any more; what the latest run told stays. */
public final class P12ClearTest {
    public static void main(String[] args) {
        Check c = new Check();
        StepMarks x = new StepMarks();
        c.due("none", x.clear(), 0);
        Check.add(x, Check.i(Check.HOLD, 0, 0, 0), Check.i(Check.MAKE, 0, 0, 0), Check.i(Check.CALL, 0, 0, 1), Check.i(Check.RETURN, 0, 0, 0));
        x.handler(0, 0, 4, 3, Check.ALL);
        Check.add(x, Check.i(Check.THROW, 0, 0, 0));
        Check.add(x);
        c.due("run", x.run(0, 4, 100), Check.RETURNED);
        c.latest(x, "run", 4, 1 + 5 + 1 + 1, 0, 0, 2, 1, 1, 1, 5);
        c.due("three", x.clear(), 3);
        c.latest(x, "what it told stays", 4, 8, 0, 0, 2, 1, 1, 1, 5);
        for (int method = 0; method < 3; method++) {
            c.due("no METHOD", x.entries(method), StepMarks.BAD);
            c.due("no METHOD", x.run(method, 0, 10), StepMarks.BAD);
        }
        c.due("none", x.clear(), 0);
        c.due("from 0 on", x.method(), 0);
        c.due("nothing is left in it", x.about(0, 0), 0);
        c.due("nothing is left in it", x.about(0, 1), 0);
        c.due("nothing is left in it", x.about(0, 2), 1);
        c.due("nothing is left in it", x.entries(0), 2);
        c.due("the others are not back", x.about(1, 0), StepMarks.BAD);
        c.both(x, 0, 9, 10, Check.RETURNED, 0, 1, 0, 0, 1, 0, 0, 0, 1);
        x.instruction(0, Check.THROW, 0, 0, 0);
        c.both(x, 0, 9, 10, Check.THREW, 0, 1, 8, 9, 1, 0, 0, 0, 1);
        x.clear();
        x.method();
        x.instruction(0, Check.CALL, 0, 0, 1);
        c.both(x, 0, 9, 10, Check.STOPPED, 0, 1, 0, 0, 1, 0, 0, 0, 1);
        // a METHOD that was LARGE is not so when it comes anew
        for (int n = 0; n < 39; n++) {
            x.instruction(0, Check.JUMP, 0, 0, 0);
        }
        c.due("LARGE", x.entries(0), StepMarks.LARGE);
        c.due("one", x.clear(), 1);
        c.due("anew", x.method(), 0);
        c.due("not LARGE", x.entries(0), 2);
        c.end();
    }
}
