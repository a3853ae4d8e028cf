/** Promise 9: entries(), and from which number on a METHOD is TOO LARGE. */
public final class P09EntriesTest extends Check {
    public static void main(String[] args) {
        promise(9);
        holds("First a MARK; behind the last INSTRUCTION one more: a METHOD without any has 2", () -> due("entries", of().entries(0), 2));
        holds("all INSTRUCTIONS: 1 of each", P09EntriesTest::instructions);
        holds("ahead of each MAKE a MARK CELLS: 1 more", P09EntriesTest::makes);
        holds("for each JUMP (6, 7) that leads to its own PLACE or one before: 2 more", P09EntriesTest::jumps);
        holds("other JUMPS: none more", P09EntriesTest::otherJumps);
        holds("for each HANDLER: 2 more", P09EntriesTest::handlers);
        holds("more than 70 ENTRIES is TOO LARGE: by an INSTRUCTION", () -> edge(load(0, 0), 1));
        holds("more than 70 ENTRIES is TOO LARGE: by a MAKE", () -> edge(make(0, BYTES), 2));
        holds("more than 70 ENTRIES is TOO LARGE: by a JUMP back", () -> edge(jump(0), 3));
        holds("more than 70 ENTRIES is TOO LARGE: by a HANDLER", P09EntriesTest::handlerEdge);
        holds("TOO LARGE: of MAKES, of JUMPS, of all that a METHOD can have", P09EntriesTest::largest);
        holds("TOO LARGE: the one METHOD, not others", P09EntriesTest::oneAlone);
        holds("BAD: METHOD", P09EntriesTest::wrongMethod);
        holds("the first of these that fits: BAD, LARGE; then nothing changes", P09EntriesTest::asking);
        end();
    }

    private static void instructions() {
        for (int act = 0; act <= 18; act++) {
            if (act != MAKE && act != JUMP && act != JUMP_ABOVE) {
                StepMarks x = of();
                for (int n = 1; n <= 40; n++) {
                    fill(x, 0, i(act, 0, 0, 0), 1);
                    due("act " + act, x.entries(0), 2 + n);
                }
            }
        }
    }

    private static void makes() {
        StepMarks x = of();
        for (int n = 1; n <= 34; n++) {
            fill(x, 0, make(n % 4, n % 7), 1);
            due("a MAKE", x.entries(0), 2 + 2 * n);
        }
    }

    private static void jumps() {
        for (int act = JUMP; act <= JUMP_ABOVE; act++) {
            for (int v = 0; v <= 5; v++) {
                StepMarks x = of(load(0, 0), load(0, 0), load(0, 0), load(0, 0), load(0, 0), i(act, 0, 0, v));
                due("from 5 to " + v, x.entries(0), 2 + 6 + 2);
            }
            StepMarks first = of(i(act, 0, 0, 0));
            due("from 0 to 0", first.entries(0), 2 + 1 + 2);
        }
    }

    private static void otherJumps() {
        for (int act = JUMP; act <= JUMP_ABOVE; act++) {
            for (int v = 6; v <= 40; v++) {
                StepMarks x = of(load(0, 0), load(0, 0), load(0, 0), load(0, 0), load(0, 0), i(act, 0, 0, v));
                due("from 5 to " + v, x.entries(0), 2 + 6);
            }
            StepMarks last = of();
            fill(last, 0, load(0, 0), 39);
            fill(last, 0, i(act, 0, 0, 40), 1);
            due("from 39 to 40", last.entries(0), 2 + 40);
        }
        // a CALL with the number of its own METHOD is no JUMP
        due("a CALL", of(call(0, 0)).entries(0), 3);
    }

    private static void handlers() {
        StepMarks x = of(gives(0));
        for (int n = 1; n <= 4; n++) {
            handler(x, 0, 0, 0, 10 * n, 0);
            due("a HANDLER", x.entries(0), 3 + 2 * n);
        }
    }

    /** 15 JUMPS back and LOADS make so many ENTRIES that this INSTRUCTION more, which has its own, makes 69, 70, 71, 72. */
    private static void edge(long[] last, int own) {
        for (int all = 69; all <= 72; all++) {
            StepMarks x = of();
            fill(x, 0, jump(0), 15);
            fill(x, 0, load(0, 0), all - own - 2 - 45);
            due("without it", x.entries(0), all - own <= 70 ? all - own : LARGE);
            fill(x, 0, last, 1);
            due("with it", x.entries(0), all <= 70 ? all : LARGE);
            due("run", x.run(0, 1, 10), all <= 70 ? STOPPED : LARGE);
        }
    }

    private static void handlerEdge() {
        for (int loads = 24; loads <= 26; loads++) {
            StepMarks x = of();
            fill(x, 0, jump(0), 14);
            fill(x, 0, load(1, 0), loads);
            due("without", x.entries(0), 44 + loads);
            due("its number", x.handler(0, 0, 0, 0, 0), 0);
            due("with it", x.entries(0), 46 + loads <= 70 ? 46 + loads : LARGE);
        }
    }

    private static void largest() {
        StepMarks makes = of();
        fill(makes, 0, make(0, BYTES), 40);
        due("82", makes.entries(0), LARGE);
        StepMarks jumps = of();
        fill(jumps, 0, jumpAbove(0, 0), 40);
        due("122", jumps.entries(0), LARGE);
        for (int n = 0; n < 4; n++) {
            handler(jumps, 0, 0, 40, 40, ALL);
        }
        due("130", jumps.entries(0), LARGE);
        // JUMPS and HANDLERS whose ENTRIES would come behind the 70th
        StepMarks behind = of();
        fill(behind, 0, make(0, BYTES), 34);
        for (int act = JUMP; act <= JUMP_ABOVE; act++) {
            for (int v : new int[] {0, 33, 40}) {
                fill(behind, 0, i(act, 0, 0, v), 1);
                due("71 or more", behind.entries(0), LARGE);
            }
        }
        handler(behind, 0, 0, 40, 39, ALL);
        due("71 or more", behind.entries(0), LARGE);
        // 40 INSTRUCTIONS and 4 HANDLERS leave room for 10 JUMPS back, or 20 MAKES
        StepMarks both = of();
        fill(both, 0, jumpAbove(0, 0), 5);
        fill(both, 0, make(0, BYTES), 10);
        fill(both, 0, load(0, 0), 25);
        for (int n = 0; n < 4; n++) {
            handler(both, 0, 0, 40, 40, ALL);
        }
        due("2 + 40 + 10 + 10 + 8", both.entries(0), 70);
    }

    private static void oneAlone() {
        StepMarks x = of(gives(0));
        int large = moreLarge(x);
        int other = more(x, make(0, BYTES));
        due("before it", x.entries(0), 3);
        due("it", x.entries(large), LARGE);
        due("after it", x.entries(other), 4);
    }

    private static void wrongMethod() {
        StepMarks x = of();
        more(x, gives(0));
        for (int m : new int[] {-1, 2, 5, 6, Integer.MIN_VALUE, Integer.MAX_VALUE}) {
            due("method " + m, x.entries(m), BAD);
        }
        due("METHOD 0", x.entries(0), 2);
        due("METHOD 1", x.entries(1), 3);
    }

    private static void asking() {
        StepMarks x = of(make(0, BYTES), jump(0));
        int large = moreLarge(x);
        x.run(0, 1, 5);
        String before = state(x);
        due("no METHOD", x.entries(large + 1), BAD);
        due("TOO LARGE", x.entries(large), LARGE);
        due("TOO LARGE", x.entries(large), LARGE);
        due("the other", x.entries(0), 7);
        same("state", state(x), before);
    }
}
