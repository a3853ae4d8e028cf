/** Promise 5: what run() answers, and refuses. */
public final class P05RefusedTest extends Check {
    public static void main(String[] args) {
        promise(5);
        all();
        end();
    }

    static void all() {
        holds("0 it RETURNED, 1 THE STOP, 2 a THROW", P05RefusedTest::outcomes);
        holds("BAD: METHOD", P05RefusedTest::wrongMethod);
        holds("BAD: BUDGET (0 .. 200)", P05RefusedTest::wrongBudget);
        holds("x is not looked at", P05RefusedTest::anyArgument);
        holds("LARGE", P05RefusedTest::large);
        holds("the first of these that fits: BAD, LARGE", P05RefusedTest::badBeforeLarge);
        holds("BAD; then nothing changes", P05RefusedTest::badChangesNothing);
        holds("LARGE; then nothing changes", P05RefusedTest::largeChangesNothing);
        holds("a run changes no METHOD", P05RefusedTest::runChangesNoMethod);
    }

    private static void outcomes() {
        StepMarks x = of(jumpAbove(0, 0), over(1, 0));
        due("it RETURNED", go(x, 0, -1, 10), 0);
        due("THE STOP", go(x, 0, 1, 10), 1);
        due("a THROW", go(x, 0, 0, 10), 2);
    }

    private static void wrongMethod() {
        StepMarks x = of(gives(0));
        more(x, gives(0));
        for (int m : new int[] {-1, 2, 5, 6, Integer.MIN_VALUE, Integer.MAX_VALUE}) {
            due("method " + m, go(x, m, 1, 10), BAD);
        }
        due("METHOD 0 is one", go(x, 0, 1, 10), RETURNED);
        due("METHOD 1 is one", go(x, 1, 1, 10), RETURNED);
    }

    private static void wrongBudget() {
        StepMarks x = of(gives(0));
        for (int budget : new int[] {-1, 201, -200, Integer.MIN_VALUE, Integer.MAX_VALUE}) {
            due("budget " + budget, go(x, 0, 1, budget), BAD);
        }
        due("budget 0", go(x, 0, 1, 0), STOPPED);
        due("budget 200", go(x, 0, 1, 200), RETURNED);
    }

    private static void anyArgument() {
        for (long arg : new long[] {0, -1, 201, 1L << 32, LEAST, MOST}) {
            ends(of(gives(0)), arg, 1, RETURNED, arg);
        }
    }

    private static void large() {
        StepMarks x = of();
        fill(x, 0, jump(0), 22);
        due("68 ENTRIES", x.entries(0), 68);
        due("68 ENTRIES", go(x, 0, 1, 10), STOPPED);
        fill(x, 0, load(0, 0), 2);
        due("70 ENTRIES", x.entries(0), 70);
        due("70 ENTRIES", go(x, 0, 1, 10), STOPPED);
        fill(x, 0, load(0, 0), 1);
        due("71 ENTRIES", x.entries(0), LARGE);
        for (int budget : new int[] {0, 10, 200}) {
            due("71 ENTRIES", go(x, 0, 1, budget), LARGE);
        }
    }

    private static void badBeforeLarge() {
        StepMarks x = of(gives(0));
        int large = moreLarge(x);
        due("budget -1", go(x, large, 1, -1), BAD);
        due("budget 201", go(x, large, 1, 201), BAD);
        due("method", go(x, large + 1, 1, 10), BAD);
        due("none of these", go(x, large, 1, 10), LARGE);
    }

    private static StepMarks withARunToTell() {
        StepMarks x = of(hold(0), hold(1), make(0, BYTES), let(2), call(0, 1), gives(0));
        handler(x, 0, 3, 4, 4, ALL);
        more(x, gives(0));
        moreLarge(x);
        ends(x, 4, 200, RETURNED, 4, 1 + 5 + 1 + 1, 0, 0, 2, 1, 1, 2, 7);
        return x;
    }

    private static void badChangesNothing() {
        StepMarks x = withARunToTell();
        String before = state(x);
        due("method", go(x, 3, 9, 10), BAD);
        due("method", go(x, -1, 9, 10), BAD);
        due("budget", go(x, 0, 9, 201), BAD);
        due("budget", go(x, 0, 9, -1), BAD);
        same("state", state(x), before);
    }

    private static void largeChangesNothing() {
        StepMarks x = withARunToTell();
        String before = state(x);
        due("LARGE", go(x, 2, 9, 10), LARGE);
        same("state", state(x), before);
    }

    private static void runChangesNoMethod() {
        StepMarks x = withARunToTell();
        String before = state(x);
        due("another one", go(x, 0, -4, 200), THREW);
        due("another one", go(x, 1, 5, 200), RETURNED);
        due("as before", go(x, 0, 4, 200), RETURNED);
        same("state", state(x), before);
    }
}
