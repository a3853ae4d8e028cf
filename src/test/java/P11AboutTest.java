/** Promise 11: about(). */
public final class P11AboutTest extends Check {
    public static void main(String[] args) {
        promise(11);
        holds("what = 0 INSTRUCTIONS: none, up to 40", P11AboutTest::instructions);
        holds("what = 1 HANDLERS: none, up to 4", P11AboutTest::handlers);
        holds("what = 2 MARKS (of both SORTS)", P11AboutTest::marks);
        holds("what = 2: of 70 ENTRIES they are told", P11AboutTest::mostMarks);
        holds("LARGE (of 2), not of 0, 1", P11AboutTest::large);
        holds("BAD: METHOD", P11AboutTest::wrongMethod);
        holds("BAD: what (0 .. 2)", P11AboutTest::wrongWhat);
        holds("the first of these that fits: BAD, LARGE; then nothing changes", P11AboutTest::order);
        end();
    }

    private static void instructions() {
        StepMarks x = of();
        for (int n = 0; n <= 40; n++) {
            due("INSTRUCTIONS", x.about(0, 0), n);
            x.instruction(0, n % 2 == 0 ? MAKE : JUMP_ABOVE, 0, 0, 0);
        }
        due("INSTRUCTIONS", x.about(0, 0), 40);
        due("a MAKE is one, its MARK CELLS is none", of(make(0, 0)).about(0, 0), 1);
    }

    private static void handlers() {
        StepMarks x = of();
        for (int n = 0; n <= 4; n++) {
            due("HANDLERS", x.about(0, 1), n);
            x.handler(0, 0, 0, 0, 0);
        }
        due("HANDLERS", x.about(0, 1), 4);
    }

    private static void marks() {
        StepMarks x = of();
        due("the first", x.about(0, 2), 1);
        fill(x, 0, load(0, 0), 1);
        due("an INSTRUCTION", x.about(0, 2), 1);
        fill(x, 0, make(0, BYTES), 1);
        due("a MAKE", x.about(0, 2), 2);
        fill(x, 0, jump(2), 1);
        due("a JUMP to its own PLACE", x.about(0, 2), 3);
        fill(x, 0, jumpAbove(0, 0), 1);
        due("a JUMP to one before", x.about(0, 2), 4);
        fill(x, 0, jumpAbove(0, 5), 1);
        due("a JUMP to one behind", x.about(0, 2), 4);
        fill(x, 0, jump(40), 1);
        due("a JUMP to one behind", x.about(0, 2), 4);
        handler(x, 0, 0, 0, 0, 0);
        due("a HANDLER", x.about(0, 2), 5);
    }

    private static void mostMarks() {
        StepMarks x = of();
        fill(x, 0, make(0, BYTES), 34);
        due("1 and 34", x.about(0, 2), 35);
        StepMarks y = of();
        fill(y, 0, jumpAbove(0, 0), 20);
        for (int n = 0; n < 4; n++) {
            handler(y, 0, 0, 1, 0, ALL);
        }
        due("70", y.entries(0), 70);
        due("1, 20 and 4", y.about(0, 2), 25);
    }

    private static void large() {
        StepMarks x = of();
        fill(x, 0, make(0, BYTES), 34);
        fill(x, 0, load(0, 0), 1);
        due("71", x.entries(0), LARGE);
        due("INSTRUCTIONS", x.about(0, 0), 35);
        due("HANDLERS", x.about(0, 1), 0);
        due("MARKS", x.about(0, 2), LARGE);
        handler(x, 0, 0, 0, 0, 0);
        due("HANDLERS", x.about(0, 1), 1);
        due("MARKS", x.about(0, 2), LARGE);
    }

    private static void wrongMethod() {
        StepMarks x = of();
        more(x, gives(0));
        for (int m : new int[] {-1, 2, 5, 6, Integer.MIN_VALUE, Integer.MAX_VALUE}) {
            for (int what = 0; what < 3; what++) {
                due("method " + m, x.about(m, what), BAD);
            }
        }
        due("METHOD 0", x.about(0, 0), 0);
        due("METHOD 1", x.about(1, 0), 1);
    }

    private static void wrongWhat() {
        StepMarks x = of();
        for (int what : new int[] {-1, 3, 4, Integer.MIN_VALUE, Integer.MAX_VALUE}) {
            due("what " + what, x.about(0, what), BAD);
        }
        due("what 2", x.about(0, 2), 1);
    }

    private static void order() {
        StepMarks x = of(make(0, BYTES), jump(0));
        int large = moreLarge(x);
        x.run(0, 1, 9);
        String before = state(x);
        due("BAD ahead of LARGE", x.about(large, 3), BAD);
        due("BAD ahead of LARGE", x.about(large, -1), BAD);
        due("BAD", x.about(large + 1, 2), BAD);
        due("LARGE", x.about(large, 2), LARGE);
        same("state", state(x), before);
    }
}
