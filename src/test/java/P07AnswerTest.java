/** Promise 7: what the latest run(), step() RETURNED; 0 if it did not. */
public final class P07AnswerTest {
    public static void main(String[] args) {
        Check c = new Check();
        StepMarks x = Check.of(Check.i(Check.JUMP_ABOVE, 0, 0, 3), Check.i(Check.MAKE, 0, 0, 0), Check.i(Check.RETURN, 0, 0, 0),
            Check.i(Check.RETURN, 0, 0, 0));
        c.due("before any", x.answer(), 0);
        x.run(0, Long.MAX_VALUE, 200);
        c.due("of run", x.answer(), Long.MAX_VALUE);
        c.due("twice", x.answer(), Long.MAX_VALUE);
        x.step(0, 4, 200);
        c.due("of step", x.answer(), 4);
        x.run(0, 4, -1);
        x.run(3, 4, 10);
        c.due("what was BAD changes nothing", x.answer(), 4);
        x.run(0, -4, 200);
        c.due("of a THROW", x.answer(), 0);
        x.run(0, 5, 200);
        c.due("of run", x.answer(), 5);
        x.step(0, 5, 0);
        c.due("of THE STOP", x.answer(), 0);
        c.end();
    }
}
