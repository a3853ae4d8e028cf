/** Promise 5: JUMPS, where they lead and what they count. */
public final class P05JumpsTest extends Check {
    public static void main(String[] args) {
        promise(5);
        all();
        end();
    }

    static void all() {
        holds("6 JUMP to PLACE v.", P05JumpsTest::leads);
        holds("7 JUMP to PLACE v, if r is above 0.", P05JumpsTest::leadsIfAbove);
        holds("STEPS: 1 when a JUMP goes to its own PLACE", P05JumpsTest::ownPlace);
        holds("STEPS: 1 when a JUMP goes to one before", P05JumpsTest::placeBefore);
        holds("STEPS: none when a JUMP goes to one behind", P05JumpsTest::placeBehind);
        holds("STEPS: none when a JUMP does not go", P05JumpsTest::doesNotGo);
        holds("a JUMP back to a MAKE: its STEPS are counted anew", P05JumpsTest::backToMake);
    }

    private static void leads() {
        for (int v = 1; v <= 4; v++) {
            StepMarks x = of(jump(v), add(0, 1), add(0, 1), add(0, 1), gives(0));
            ends(x, 8, 200, RETURNED, 8, 1, 0, 0, 1, 0, 0, 0, 1 + 5 - v);
        }
        StepMarks x = of(jump(3), load(0, 44), gives(0), jump(1));
        ends(x, 8, 200, RETURNED, 44, 2, 0, 0, 1, 0, 0, 0, 4);
    }

    private static void leadsIfAbove() {
        for (int r = 0; r < 4; r++) {
            for (long n : new long[] {1, 2, 1L << 31, 1L << 32, MOST, 0, -1, -(1L << 32), LEAST}) {
                StepMarks x = of(load(r, n), jumpAbove(r, 4), load(0, 10), gives(0), load(0, 20), gives(0));
                ends(x, 5, 200, RETURNED, n > 0 ? 20 : 10, 1, 0, 0, 1, 0, 0, 0, 4);
            }
        }
    }

    private static void ownPlace() {
        StepMarks x = of(jump(0));
        ends(x, 0, 30, STOPPED, 0, 30, 0, 0, 1, 0, 0, 0, 30);
        StepMarks above = of(load(1, 1), jumpAbove(1, 1));
        ends(above, 0, 30, STOPPED, 0, 30, 0, 0, 1, 0, 0, 0, 31);
        StepMarks last = of();
        fill(last, 0, load(1, 1), 39);
        fill(last, 0, jump(39), 1);
        ends(last, 0, 30, STOPPED, 0, 30, 0, 0, 1, 0, 0, 0, 39 + 30);
    }

    private static void placeBefore() {
        for (int v = 1; v <= 3; v++) {
            StepMarks x = of(load(1, 1), load(2, 0), load(3, 0), less(0, 1), jumpAbove(0, v));
            ends(x, 10, 200, RETURNED, 0, 1 + 9, 0, 0, 1, 0, 0, 0, 5 + 9 * (5 - v) + 1);
            needs(x, 10, 10);
        }
    }

    private static void placeBehind() {
        StepMarks next = of(jump(1), jumpAbove(0, 2), gives(0));
        ends(next, 3, 1, RETURNED, 3, 1, 0, 0, 1, 0, 0, 0, 3);
        StepMarks all = of();
        for (int place = 0; place < 40; place++) {
            fill(all, 0, jumpAbove(0, place + 1), 1);
        }
        ends(all, 3, 1, RETURNED, 0, 1, 0, 0, 1, 0, 0, 0, 41);
    }

    private static void doesNotGo() {
        StepMarks x = of(jumpAbove(0, 0), jumpAbove(0, 0), jumpAbove(0, 2), gives(0));
        ends(x, 0, 1, RETURNED, 0, 1, 0, 0, 1, 0, 0, 0, 4);
        ends(x, -7, 1, RETURNED, -7, 1, 0, 0, 1, 0, 0, 0, 4);
    }

    private static void backToMake() {
        StepMarks x = of(load(1, 1), make(0, SHORTS), less(0, 1), jumpAbove(0, 1), count(0), gives(0));
        ends(x, 3, 200, RETURNED, 1, 1 + 4 + 1 + 3 + 1 + 2, 0, 0, 1, 0, 3, 0, 1 + 9 + 2);
        needs(x, 3, 12);
    }
}
