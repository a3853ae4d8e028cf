/** Promise 2: method(). */
public final class P02MethodTest extends Check {
    public static void main(String[] args) {
        promise(2);
        holds("METHODS 0 .. 5, as they come: A METHOD: its number.", P02MethodTest::asTheyCome);
        holds("FULL: a 7th METHOD", P02MethodTest::full);
        holds("FULL; then nothing changes", P02MethodTest::fullChangesNothing);
        holds("a new METHOD has no INSTRUCTIONS and no HANDLERS: it RETURNS 0", P02MethodTest::empty);
        end();
    }

    private static StepMarks six() {
        StepMarks x = new StepMarks();
        for (int m = 0; m < 6; m++) {
            x.method();
        }
        return x;
    }

    private static void asTheyCome() {
        StepMarks x = new StepMarks();
        for (int m = 0; m < 6; m++) {
            due("not yet " + m, x.about(m, 0), BAD);
            due("method", x.method(), m);
            due("now " + m, x.about(m, 0), 0);
        }
    }

    private static void full() {
        StepMarks x = six();
        due("a 7th", x.method(), FULL);
        due("once more", x.method(), FULL);
        due("METHOD 6", x.about(6, 0), BAD);
        due("METHOD 6", x.run(6, 0, 10), BAD);
    }

    private static void fullChangesNothing() {
        StepMarks x = six();
        for (int m = 0; m < 6; m++) {
            fill(x, m, gives(0), m + 1);
            handler(x, m, 0, 1, 1, ALL);
        }
        go(x, 5, 77, 10);
        String before = state(x);
        due("a 7th", x.method(), FULL);
        same("state", state(x), before);
        endsOf(x, 5, 78, 10, RETURNED, 78);
        endsOf(x, 0, 79, 10, RETURNED, 79);
        due("how many", x.clear(), 6);
    }

    private static void empty() {
        StepMarks x = six();
        for (int m = 0; m < 6; m++) {
            due("INSTRUCTIONS", x.about(m, 0), 0);
            due("HANDLERS", x.about(m, 1), 0);
            endsOf(x, m, 9, 1, RETURNED, 0, 1, 0, 0, 1, 0, 0, 0, 1);
        }
    }
}
