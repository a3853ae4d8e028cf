/** Promise 2: METHODS 0 .. 5 as they come, then FULL. */
public final class P02MethodTest {
    public static void main(String[] args) {
        Check c = new Check();
        StepMarks x = new StepMarks();
        for (int m = 0; m < 6; m++) {
            c.due("not yet", x.about(m, 0), StepMarks.BAD);
            c.due("method", x.method(), m);
            c.due("INSTRUCTIONS", x.about(m, 0), 0);
            c.due("HANDLERS", x.about(m, 1), 0);
        }
        c.due("a 7th", x.method(), StepMarks.FULL);
        c.due("a 7th again", x.method(), StepMarks.FULL);
        c.due("still not there", x.about(6, 0), StepMarks.BAD);
        c.due("how many", x.clear(), 6);
        c.due("after clear", x.method(), 0);
        c.end();
    }
}
