/** Promise 1: a new object has no METHODS, and no run to tell of. */
public final class P01NewObjectTest {
    public static void main(String[] args) {
        Check c = new Check();
        StepMarks x = new StepMarks();
        for (int m = -1; m <= 6; m++) {
            c.due("entries", x.entries(m), StepMarks.BAD);
            c.due("entry", x.entry(m, 0, 0), StepMarks.BAD);
            c.due("about", x.about(m, 0), StepMarks.BAD);
            c.due("run", x.run(m, 0, 10), StepMarks.BAD);
            c.due("step", x.step(m, 0, 10), StepMarks.BAD);
            c.due("instruction", x.instruction(m, 0, 0, 0, 0), StepMarks.BAD);
            c.due("handler", x.handler(m, 0, 1, 0, 2), StepMarks.BAD);
        }
        c.latest(x, "none", 0, 0, 0, 0, 0, 0, 0, 0, 0);
        c.due("clear", x.clear(), 0);
        StepMarks y = new StepMarks();
        c.due("method", x.method(), 0);
        c.due("another object has its own METHODS", y.entries(0), StepMarks.BAD);
        c.due("NONE", StepMarks.NONE, -1);
        c.due("BAD", StepMarks.BAD, -2);
        c.due("FULL", StepMarks.FULL, -3);
        c.due("LARGE", StepMarks.LARGE, -4);
        c.end();
    }
}
