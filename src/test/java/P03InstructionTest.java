/** Promise 3: instruction(). */
public final class P03InstructionTest extends Check {
    public static void main(String[] args) {
        promise(3);
        holds("An INSTRUCTION more: its PLACE (by PLACES from 0 on)", P03InstructionTest::places);
        holds("INSTRUCTIONS, 40 at most: FULL", P03InstructionTest::full);
        holds("FULL; then nothing changes", P03InstructionTest::fullChangesNothing);
        holds("each METHOD has 40 of its own", P03InstructionTest::eachMethod);
        holds("BAD: METHOD", P03InstructionTest::wrongMethod);
        holds("BAD: ACT (0 .. 18)", P03InstructionTest::wrongAct);
        holds("BAD: r (0 .. 3, looked at in each)", P03InstructionTest::wrongFirst);
        holds("BAD: s (0 .. 3, looked at in each)", P03InstructionTest::wrongSecond);
        holds("BAD: v of 6, 7 (0 .. 40)", () -> wrongNumber(40, 6, 7));
        holds("BAD: v of 8, 11 (LANES)", () -> wrongNumber(6, 8, 11));
        holds("BAD: v of 13 (0 .. 5)", () -> wrongNumber(5, 13));
        holds("BAD: v of 17, 18 (0 .. 2)", () -> wrongNumber(2, 17, 18));
        holds("v of all others is not looked at", P03InstructionTest::anyNumber);
        holds("BAD; then nothing changes", P03InstructionTest::badChangesNothing);
        holds("the first of these that fits: BAD, FULL", P03InstructionTest::badBeforeFull);
        holds("of a METHOD that is TOO LARGE: its PLACE all the same, as neither BAD nor FULL fits", P03InstructionTest::ofLarge);
        holds("A PLACE v beyond the last INSTRUCTION counts as the RETURN 0 behind it", P03InstructionTest::beyond);
        holds("A PLACE v beyond the last INSTRUCTION: one that comes later is no more beyond", P03InstructionTest::beyondNoMore);
        holds("so does at of HANDLERS", P03InstructionTest::handlerBeyond);
        holds("A CALL of no METHOD is THE STOP.", P03InstructionTest::callOfNone);
        holds("a CALL is of the METHOD that is there when it is run", P03InstructionTest::callOfLater);
        end();
    }

    private static void places() {
        StepMarks x = of();
        for (int act = 0; act <= 18; act++) {
            due("act " + act, x.instruction(0, act, act % 4, 3 - act % 4, 0), act);
            due("INSTRUCTIONS", x.about(0, 0), act + 1);
        }
    }

    private static void full() {
        StepMarks x = of();
        for (int place = 0; place < 40; place++) {
            due("a place", x.instruction(0, 0, 1, 0, place), place);
        }
        due("a 41st", x.instruction(0, 0, 1, 0, 40), FULL);
        due("once more", x.instruction(0, 18, 3, 3, 2), FULL);
        due("INSTRUCTIONS", x.about(0, 0), 40);
    }

    private static void fullChangesNothing() {
        StepMarks x = of();
        fill(x, 0, add(0, 1), 39);
        fill(x, 0, jumpAbove(1, 40), 1);
        go(x, 0, 6, 200);
        String before = state(x);
        due("a 41st", x.instruction(0, 14, 0, 0, 0), FULL);
        same("state", state(x), before);
        ends(x, 6, 200, RETURNED, 0, 1, 0, 0, 1, 0, 0, 0, 41);
    }

    private static void eachMethod() {
        StepMarks x = of();
        fill(x, 0, load(1, 0), 40);
        due("another METHOD", x.method(), 1);
        due("its first", x.instruction(1, 14, 0, 0, 0), 0);
        fill(x, 1, load(1, 0), 39);
        due("its 41st", x.instruction(1, 14, 0, 0, 0), FULL);
        endsOf(x, 1, 5, 1, RETURNED, 5);
        endsOf(x, 0, 5, 1, RETURNED, 0);
    }

    private static void wrongMethod() {
        StepMarks x = of();
        more(x);
        for (int m : new int[] {-1, 2, 5, 6, Integer.MIN_VALUE, Integer.MAX_VALUE}) {
            due("method " + m, x.instruction(m, 0, 0, 0, 0), BAD);
        }
        due("METHOD 1 is one", x.instruction(1, 0, 0, 0, 0), 0);
        due("METHOD 0 is one", x.instruction(0, 0, 0, 0, 0), 0);
    }

    private static void wrongAct() {
        StepMarks x = of();
        for (int act : new int[] {-1, 19, Integer.MIN_VALUE, Integer.MAX_VALUE}) {
            due("act " + act, x.instruction(0, act, 0, 0, 0), BAD);
        }
        due("act 0", x.instruction(0, 0, 0, 0, 0), 0);
        due("act 18", x.instruction(0, 18, 0, 0, 0), 1);
    }

    private static void wrongFirst() {
        for (int act = 0; act <= 18; act++) {
            StepMarks x = of();
            for (int r : new int[] {-1, 4, Integer.MIN_VALUE, Integer.MAX_VALUE}) {
                due("r " + r + " of act " + act, x.instruction(0, act, r, 0, 0), BAD);
            }
            due("r 0 of act " + act, x.instruction(0, act, 0, 1, 0), 0);
            due("r 3 of act " + act, x.instruction(0, act, 3, 1, 0), 1);
        }
    }

    private static void wrongSecond() {
        for (int act = 0; act <= 18; act++) {
            StepMarks x = of();
            for (int s : new int[] {-1, 4, Integer.MIN_VALUE, Integer.MAX_VALUE}) {
                due("s " + s + " of act " + act, x.instruction(0, act, 0, s, 0), BAD);
            }
            due("s 0 of act " + act, x.instruction(0, act, 1, 0, 0), 0);
            due("s 3 of act " + act, x.instruction(0, act, 1, 3, 0), 1);
        }
    }

    private static void wrongNumber(long most, int... acts) {
        for (int act : acts) {
            StepMarks x = of();
            for (long v : new long[] {-1, most + 1, 1L << 32, (1L << 32) + 1, -(1L << 32), LEAST, MOST}) {
                due("v " + v + " of act " + act, x.instruction(0, act, 0, 0, v), BAD);
            }
            due("nothing changed", x.about(0, 0), 0);
            due("v 0 of act " + act, x.instruction(0, act, 0, 0, 0), 0);
            due("v " + most + " of act " + act, x.instruction(0, act, 0, 0, most), 1);
        }
    }

    private static void anyNumber() {
        for (int act : new int[] {0, 1, 2, 3, 4, 5, 9, 10, 12, 14, 15, 16}) {
            StepMarks x = of();
            int place = 0;
            for (long v : new long[] {-1, 41, 1L << 32, LEAST, MOST}) {
                due("v " + v + " of act " + act, x.instruction(0, act, 0, 0, v), place);
                place++;
            }
        }
    }

    private static void badChangesNothing() {
        StepMarks x = of(make(0, BYTES), jump(40), count(0));
        handler(x, 0, 0, 1, 2, ALL);
        more(x, gives(0));
        go(x, 0, 3, 100);
        String before = state(x);
        due("method", x.instruction(2, 0, 0, 0, 0), BAD);
        due("act", x.instruction(0, 19, 0, 0, 0), BAD);
        due("r", x.instruction(0, 0, 4, 0, 0), BAD);
        due("s", x.instruction(0, 0, 0, 4, 0), BAD);
        due("v", x.instruction(0, 6, 0, 0, 41), BAD);
        same("state", state(x), before);
        due("the next PLACE", x.instruction(0, 14, 0, 0, 0), 3);
    }

    private static void badBeforeFull() {
        StepMarks x = of();
        fill(x, 0, load(0, 0), 40);
        due("method", x.instruction(1, 0, 0, 0, 0), BAD);
        due("act", x.instruction(0, -1, 0, 0, 0), BAD);
        due("r", x.instruction(0, 0, -1, 0, 0), BAD);
        due("s", x.instruction(0, 0, 0, 4, 0), BAD);
        due("v", x.instruction(0, 17, 0, 0, 3), BAD);
        due("none of these", x.instruction(0, 17, 0, 0, 2), FULL);
    }

    private static void ofLarge() {
        StepMarks x = of();
        fill(x, 0, jump(0), 23);
        due("TOO LARGE", x.entries(0), LARGE);
        due("one more", x.instruction(0, 0, 0, 0, 0), 23);
        due("INSTRUCTIONS", x.about(0, 0), 24);
        fill(x, 0, jump(0), 16);
        due("a 41st", x.instruction(0, 0, 0, 0, 0), FULL);
    }

    private static void beyond() {
        for (int v = 3; v <= 40; v++) {
            StepMarks x = of(jumpAbove(0, v), load(0, 9), gives(0));
            due("where JUMP to " + v + " GOES", x.entry(0, 1, 2), 4);
            ends(x, 7, 200, RETURNED, 0, 1, 0, 0, 1, 0, 0, 0, 2);
            ends(x, 0, 200, RETURNED, 9, 1, 0, 0, 1, 0, 0, 0, 3);
        }
        StepMarks last = of(jump(2), gives(0));
        due("to the PLACE behind", last.entry(0, 1, 2), 3);
        ends(last, 7, 200, RETURNED, 0, 1, 0, 0, 1, 0, 0, 0, 2);
        StepMarks one = of(jump(1));
        ends(one, 7, 1, RETURNED, 0, 1, 0, 0, 1, 0, 0, 0, 2);
        StepMarks forty = of();
        fill(forty, 0, jump(40), 40);
        due("from the first", forty.entry(0, 1, 2), 41);
        due("from the last", forty.entry(0, 40, 2), 41);
        ends(forty, 7, 1, RETURNED, 0, 1, 0, 0, 1, 0, 0, 0, 2);
    }

    private static void beyondNoMore() {
        StepMarks x = of(jump(2));
        due("to the RETURN 0", x.entry(0, 1, 2), 2);
        returns(x, 7, 0);
        fill(x, 0, gives(0), 1);
        due("to the RETURN 0", x.entry(0, 1, 2), 3);
        returns(x, 7, 0);
        fill(x, 0, load(0, 5), 1);
        due("to the INSTRUCTION", x.entry(0, 1, 2), 3);
        fill(x, 0, gives(0), 1);
        returns(x, 7, 5);
    }

    private static void handlerBeyond() {
        for (int at = 3; at <= 40; at++) {
            StepMarks x = of(throwOwn(0), load(0, 9), gives(0));
            handler(x, 0, 0, 1, at, ALL);
            due("where " + at + " begins", x.entry(0, 6, 1), 4);
            ends(x, 7, 200, RETURNED, 0, 2, 0, 0, 1, 1, 0, 0, 2);
        }
        StepMarks later = of(throwOwn(0));
        handler(later, 0, 0, 1, 2, ALL);
        returns(later, 7, 0);
        fill(later, 0, gives(0), 1);
        returns(later, 7, 0);
        fill(later, 0, load(0, 5), 1);
        fill(later, 0, gives(0), 1);
        returns(later, 7, 5);
    }

    private static void callOfNone() {
        for (int m = 1; m <= 5; m++) {
            StepMarks x = of(call(0, m), gives(0));
            handler(x, 0, 0, 2, 1, ALL);
            ends(x, 7, 200, STOPPED, 0, 1, 0, 0, 1, 0, 0, 0, 1);
        }
    }

    private static void callOfLater() {
        StepMarks x = of(call(0, 1), gives(0));
        due("none yet", go(x, 0, 7, 200), STOPPED);
        more(x, load(0, 8), gives(0));
        returns(x, 7, 8);
    }
}
