/** Promise 10: entry(): SORT, number and goal of each ENTRY of MARKED CODE. */
public final class P10EntryTest extends Check {
    public static void main(String[] args) {
        promise(10);
        holds("MARKED CODE, whole", P10EntryTest::whole);
        holds("First a MARK (0); behind the last INSTRUCTION: RETURN 0, of the PLACE behind it", P10EntryTest::empty);
        holds("0 INSTRUCTION (its PLACE): all INSTRUCTIONS in order", P10EntryTest::instructions);
        holds("ahead of each MAKE a MARK CELLS (r)", P10EntryTest::makes);
        holds("for each JUMP (6, 7) that leads to its own PLACE or one before, in order, a MARK and a LEAD to where PLACE v begins",
            P10EntryTest::jumpsBack);
        holds("A JUMP that leads back GOES to its MARK", P10EntryTest::jumpsBackGo);
        holds("others to where their PLACE begins", P10EntryTest::otherJumps);
        holds("A PLACE begins with its MARK CELLS, if it has one", P10EntryTest::beginsWithCells);
        holds("for each HANDLER, in order, a MARK and a LEAD to where PLACE at begins", P10EntryTest::handlers);
        holds("JUMPS come ahead of HANDLERS, however they were told", P10EntryTest::jumpsFirst);
        holds("the ENTRY to which it GOES (of a JUMP, of LEAD; NONE of others)", P10EntryTest::noneOfOthers);
        holds("ENTRIES are of all that is there: also of what came later", P10EntryTest::later);
        holds("70 ENTRIES: the last one is told", P10EntryTest::last);
        holds("NONE: no such ENTRY", P10EntryTest::noSuch);
        holds("BAD: METHOD", P10EntryTest::wrongMethod);
        holds("BAD: what (0 .. 2)", P10EntryTest::wrongWhat);
        holds("LARGE", P10EntryTest::large);
        holds("the first of these that fits: BAD, LARGE, NONE; then nothing changes", P10EntryTest::order);
        end();
    }

    /** All ENTRIES of METHOD 0, each as sort, number, goal. */
    private static void entries(StepMarks x, int[]... due) {
        due("entries", x.entries(0), due.length);
        for (int at = 0; at < due.length; at++) {
            for (int what = 0; what < 3; what++) {
                due("entry(0, " + at + ", " + what + ")", x.entry(0, at, what), due[at][what]);
            }
        }
    }

    private static int[] place(int number, int goal) {
        return new int[] {0, number, goal};
    }

    private static int[] place(int number) {
        return place(number, NONE);
    }

    private static int[] mark() {
        return new int[] {1, 0, NONE};
    }

    private static int[] markCells(int r) {
        return new int[] {2, r, NONE};
    }

    private static int[] lead(int goal) {
        return new int[] {3, goal, goal};
    }

    private static void whole() {
        StepMarks x = of(make(2, BYTES), jump(3), jumpAbove(0, 0), make(3, RICH), jump(4), jumpAbove(0, 40), call(0, 2));
        handler(x, 0, 0, 1, 3, 2);
        handler(x, 0, 0, 1, 40, 4);
        entries(x, mark(), markCells(2), place(0), place(1, 5), place(2, 11), markCells(3), place(3), place(4, 13), place(5, 10), place(6),
            place(7), mark(), lead(1), mark(), lead(7), mark(), lead(5), mark(), lead(10));
    }

    private static void empty() {
        entries(of(), mark(), place(0));
    }

    private static void instructions() {
        StepMarks x = of(load(3, 9), add(1, 2), less(1, 2), times(1, 2), over(1, 2), rest(1, 2), get(1, 2), put(1, 2), isOf(5), count(1),
            call(1, 3), gives(1), throwOwn(1), again(), hold(2), let(2));
        int[][] due = new int[18][];
        due[0] = mark();
        for (int at = 0; at <= 16; at++) {
            due[at + 1] = place(at);
        }
        entries(x, due);
    }

    private static void makes() {
        for (int r = 0; r < 4; r++) {
            entries(of(make(r, LONGS)), mark(), markCells(r), place(0), place(1));
        }
        entries(of(load(0, 1), make(1, INTS), make(3, RICH), count(2)), mark(), place(0), markCells(1), place(1), markCells(3), place(2),
            place(3), place(4));
    }

    private static void jumpsBack() {
        entries(of(jump(0)), mark(), place(0, 3), place(1), mark(), lead(1));
        entries(of(load(0, 1), jumpAbove(2, 1)), mark(), place(0), place(1, 4), place(2), mark(), lead(2));
        entries(of(load(0, 1), jumpAbove(2, 1), jump(0), jumpAbove(3, 2)), mark(), place(0), place(1, 6), place(2, 8), place(3, 10), place(4),
            mark(), lead(2), mark(), lead(1), mark(), lead(3));
    }

    private static void jumpsBackGo() {
        for (int v = 0; v <= 3; v++) {
            StepMarks x = of(load(0, 1), load(0, 1), load(0, 1), jump(v));
            due("JUMP to " + v, x.entry(0, 4, 2), 6);
            due("a MARK is there", x.entry(0, 6, 0), 1);
            due("LEAD", x.entry(0, 7, 0), 3);
            due("its number", x.entry(0, 7, 1), 1 + v);
            due("where it GOES", x.entry(0, 7, 2), 1 + v);
        }
    }

    private static void otherJumps() {
        for (int v = 2; v <= 40; v++) {
            StepMarks x = of(load(0, 1), jumpAbove(0, v), load(0, 1), load(0, 1));
            due("JUMP to " + v, x.entry(0, 2, 2), Math.min(1 + v, 5));
            due("entries", x.entries(0), 6);
        }
    }

    private static void beginsWithCells() {
        // of a JUMP on, a JUMP back, a HANDLER
        StepMarks x = of(jump(1), make(0, BYTES), jump(1));
        handler(x, 0, 0, 1, 1, ALL);
        entries(x, mark(), place(0, 2), markCells(0), place(1), place(2, 6), place(3), mark(), lead(2), mark(), lead(2));
        // those behind a MAKE come one later
        entries(of(jump(2), make(1, BYTES), jump(3)), mark(), place(0, 4), markCells(1), place(1), place(2, 5), place(3));
    }

    private static void handlers() {
        StepMarks x = of(make(1, BYTES), load(0, 1));
        for (int at : new int[] {1, 0, 40, 2}) {
            handler(x, 0, 0, 1, at, ALL);
        }
        entries(x, mark(), markCells(1), place(0), place(1), place(2), mark(), lead(3), mark(), lead(1), mark(), lead(4), mark(), lead(4));
        StepMarks none = of();
        handler(none, 0, 0, 0, 0, 0);
        entries(none, mark(), place(0), mark(), lead(1));
    }

    private static void jumpsFirst() {
        StepMarks x = of();
        handler(x, 0, 0, 1, 1, ALL);
        fill(x, 0, load(0, 0), 1);
        fill(x, 0, jump(0), 1);
        entries(x, mark(), place(0), place(1, 4), place(2), mark(), lead(1), mark(), lead(2));
    }

    private static void noneOfOthers() {
        for (int act = 0; act <= 18; act++) {
            if (act != JUMP && act != JUMP_ABOVE) {
                StepMarks x = of(i(act, 1, 1, 1));
                int at = act == MAKE ? 2 : 1;
                due("act " + act, x.entry(0, at, 0), 0);
                due("act " + act, x.entry(0, at, 2), NONE);
            }
        }
        StepMarks x = of(make(0, BYTES));
        due("MARK", x.entry(0, 0, 2), NONE);
        due("MARK CELLS", x.entry(0, 1, 2), NONE);
        due("RETURN 0", x.entry(0, 3, 2), NONE);
    }

    private static void later() {
        StepMarks x = of(jump(2));
        entries(x, mark(), place(0, 2), place(1));
        fill(x, 0, load(0, 0), 1);
        entries(x, mark(), place(0, 3), place(1), place(2));
        fill(x, 0, make(3, BYTES), 1);
        entries(x, mark(), place(0, 3), place(1), markCells(3), place(2), place(3));
        handler(x, 0, 0, 1, 3, ALL);
        entries(x, mark(), place(0, 3), place(1), markCells(3), place(2), place(3), mark(), lead(5));
        fill(x, 0, jumpAbove(1, 3), 1);
        entries(x, mark(), place(0, 3), place(1), markCells(3), place(2), place(3, 7), place(4), mark(), lead(5), mark(), lead(5));
    }

    private static void last() {
        StepMarks x = of();
        fill(x, 0, make(2, BYTES), 33);
        handler(x, 0, 0, 1, 32, ALL);
        due("70", x.entries(0), 70);
        due("ENTRY 69", x.entry(0, 69, 0), 3);
        due("ENTRY 69", x.entry(0, 69, 1), 1 + 64);
        due("ENTRY 69", x.entry(0, 69, 2), 1 + 64);
        due("ENTRY 68", x.entry(0, 68, 0), 1);
        due("ENTRY 67", x.entry(0, 67, 1), 33);
        for (int what = 0; what < 3; what++) {
            due("ENTRY 70", x.entry(0, 70, what), NONE);
        }
    }

    private static void noSuch() {
        StepMarks x = of(make(2, BYTES), jump(0));
        handler(x, 0, 0, 1, 32, ALL);
        more(x);
        for (int what = 0; what < 3; what++) {
            for (int at : new int[] {-1, 9, 10, 69, 70, 71, Integer.MIN_VALUE, Integer.MAX_VALUE}) {
                due("ENTRY " + at, x.entry(0, at, what), NONE);
            }
            for (int at : new int[] {-1, 2, 3, 70}) {
                due("ENTRY " + at + " of an empty METHOD", x.entry(1, at, what), NONE);
            }
        }
        due("ENTRY 0", x.entry(0, 0, 0), 1);
        due("ENTRY 8", x.entry(0, 8, 0), 3);
    }

    private static void wrongMethod() {
        StepMarks x = of();
        more(x);
        for (int m : new int[] {-1, 2, 5, 6, Integer.MIN_VALUE, Integer.MAX_VALUE}) {
            for (int what = 0; what < 3; what++) {
                due("method " + m, x.entry(m, 0, what), BAD);
            }
        }
        due("METHOD 1", x.entry(1, 0, 0), 1);
    }

    private static void wrongWhat() {
        StepMarks x = of();
        for (int what : new int[] {-1, 3, 4, Integer.MIN_VALUE, Integer.MAX_VALUE}) {
            due("what " + what, x.entry(0, 0, what), BAD);
        }
        due("what 0", x.entry(0, 0, 0), 1);
        due("what 2", x.entry(0, 0, 2), NONE);
    }

    private static void large() {
        StepMarks x = of();
        fill(x, 0, make(2, BYTES), 34);
        due("70", x.entry(0, 0, 0), 1);
        fill(x, 0, load(2, 0), 1);
        for (int at : new int[] {0, 1, 69, 70}) {
            for (int what = 0; what < 3; what++) {
                due("71", x.entry(0, at, what), LARGE);
            }
        }
    }

    private static void order() {
        StepMarks x = of(jump(0));
        int large = moreLarge(x);
        x.run(0, 1, 5);
        String before = state(x);
        due("BAD ahead of LARGE", x.entry(large, 0, 3), BAD);
        due("BAD ahead of LARGE and NONE", x.entry(large, -1, -1), BAD);
        due("BAD ahead of NONE", x.entry(0, -1, 3), BAD);
        due("BAD ahead of NONE", x.entry(large + 1, 99, 0), BAD);
        due("LARGE ahead of NONE", x.entry(large, -1, 0), LARGE);
        due("LARGE ahead of NONE", x.entry(large, 999, 2), LARGE);
        due("NONE", x.entry(0, 999, 2), NONE);
        same("state", state(x), before);
    }
}
