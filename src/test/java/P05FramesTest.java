/** Promise 5: what a FRAME has at first, how it ends, what CALLS get and give. */
public final class P05FramesTest extends Check {
    public static void main(String[] args) {
        promise(5);
        all();
        end();
    }

    static void all() {
        holds("REGISTERS 0 .. 3 (longs, 0 at first, REGISTER 0 what it gets)", P05FramesTest::registers);
        holds("a ROW or none (at first)", P05FramesTest::noRow);
        holds("the THROW that it caught latest (none at first)", P05FramesTest::noThrow);
        holds("how often it HOLDS each GUARD 0 .. 2 (not at first)", P05FramesTest::noGuards);
        holds("A FRAME of a CALL has nothing of its caller's", P05FramesTest::nothingOfTheCaller);
        holds("A FRAME of a CALL leaves its caller's as they were", P05FramesTest::callerStays);
        holds("A FRAME has nothing of one that ended before it", P05FramesTest::nothingOfTheOneBefore);
        holds("A FRAME has nothing of one that ended in THE STOP or a THROW", P05FramesTest::nothingOfABrokenOne);
        holds("Behind the last INSTRUCTION: RETURN 0.", P05FramesTest::behindTheLast);
        holds("Behind the last INSTRUCTION: of a METHOD without any, and of one with 40", P05FramesTest::behindNoneAndAll);
        holds("CALL METHOD v (a FRAME of it, which gets r): r becomes what it RETURNS.", P05FramesTest::calls);
        holds("CALL: each METHOD 0 .. 5 is called by its number", P05FramesTest::eachMethod);
        holds("Of a CALL r stays as it was then (when it is a THROW).", P05FramesTest::callThatThrows);
        holds("RETURN r", P05FramesTest::returnsAny);
    }

    private static void registers() {
        for (long arg : new long[] {0, 9, -1, LEAST, MOST}) {
            for (int r = 0; r < 4; r++) {
                returns(of(gives(r)), arg, r == 0 ? arg : 0);
            }
        }
        StepMarks x = of(load(0, 1L << 40), load(1, 2L << 40), load(2, 3L << 40), load(3, 4L << 40),
            add(0, 1), add(0, 2), add(0, 3), gives(0));
        returns(x, 0, 10L << 40);
    }

    private static void noRow() {
        throwsKind(of(count(0)), 0, NULL, 0);
        throwsKind(of(get(0, 1)), 0, NULL, 0);
        throwsKind(of(put(0, 1)), 0, NULL, 0);
    }

    private static void noThrow() {
        throwsKind(of(again()), 0, STATE, 0);
    }

    private static void noGuards() {
        for (int guard = 0; guard < 3; guard++) {
            throwsKind(of(let(guard)), 0, STATE, 0);
            StepMarks once = of(hold(guard), let(guard), gives(0));
            ends(once, 4, 200, RETURNED, 4, 1, 0, 0, 1, 0, 0, 1, 3);
        }
    }

    /** Fills all that a FRAME has, then calls METHOD 1. */
    private static StepMarks fullCaller() {
        StepMarks x = of(throwOwn(0), load(1, 2), make(1, LONGS), hold(0), hold(1), hold(2), load(3, 5), put(3, 0),
            call(2, 1), gives(2));
        handler(x, 0, 0, 1, 1, ALL);
        handler(x, 0, 8, 9, 9, ALL);
        return x;
    }

    private static void nothingOfTheCaller() {
        for (long[] look : new long[][] {count(0), get(0, 0), put(0, 0)}) {
            StepMarks x = fullCaller();
            more(x, look);
            ends(x, 0, 200, RETURNED, 0);
            due("of it", x.told(4), 2);
        }
        for (long[] look : new long[][] {again(), let(0), let(1), let(2)}) {
            StepMarks x = fullCaller();
            more(x, look);
            handler(x, 1, 0, 1, 1, 1 << STATE);
            ends(x, 0, 200, RETURNED, 0);
            due("HANDLERS took", x.told(4), 2);
            due("steps", x.told(0), 1 + 1 + 3 + 1 + 1);
        }
        for (int r = 0; r < 4; r++) {
            StepMarks x = fullCaller();
            more(x, gives(r));
            returns(x, 0, 0);
        }
    }

    private static void callerStays() {
        StepMarks x = of(load(1, 2), make(1, LONGS), load(3, 5), put(3, 2), hold(1), throwOwn(3),
            call(2, 1), load(2, 0), get(0, 2), times(0, 1), add(0, 3), let(1), again());
        handler(x, 0, 5, 6, 6, ALL);
        more(x, load(1, 9), load(2, 8), load(3, 7), make(1, INTS), put(3, 2), hold(1), let(1), count(0), over(0, 0), over(0, 2),
            add(2, 2), rest(0, 0));
        handler(x, 1, 10, 12, 12, ALL);
        // 1 and 3 and the HANDLER; 1 and 10 and the HANDLER
        ends(x, 6, 200, THREW, 0, 1 + 3 + 1 + 1 + 10 + 1, OWN, 5, 2, 2, 2, 2, 13 + 13);
        StepMarks y = of(load(1, 2), load(3, 5), call(2, 1), add(0, 1), add(0, 3), add(0, 2), gives(0));
        more(y, load(0, 100), load(1, 100), load(2, 100), load(3, 100));
        returns(y, 6, 6 + 2 + 5);
    }

    /** METHOD 1, called with 1, fills all that a FRAME has; called with 0, it looks. */
    private static StepMarks twice(long[] look) {
        StepMarks x = of(load(1, 1), call(1, 1), call(0, 1), gives(0));
        more(x, jumpAbove(0, 3), look, gives(0),
            throwOwn(0), load(1, 2), load(2, 3), load(3, 4), make(1, LONGS), hold(0), hold(1), hold(2), gives(3));
        handler(x, 1, 3, 4, 4, ALL);
        return x;
    }

    private static void nothingOfTheOneBefore() {
        for (int r = 0; r < 4; r++) {
            returns(twice(gives(r)), 0, 0);
        }
        for (long[] look : new long[][] {count(0), get(0, 0), put(0, 0)}) {
            throwsKind(twice(look), 0, NULL, 0);
        }
        for (long[] look : new long[][] {again(), let(0), let(1), let(2)}) {
            throwsKind(twice(look), 0, STATE, 0);
        }
    }

    /** METHOD 1 calls METHOD 0, which fills all that a FRAME has and breaks; or, called with 0, looks. */
    private static StepMarks breaks(long[] broken, long[] look) {
        StepMarks x = of(jumpAbove(0, 3), look, gives(0),
            throwOwn(0), load(1, 2), load(2, 3), load(3, 4), make(1, LONGS), hold(0), hold(1), hold(2), broken);
        handler(x, 0, 3, 4, 4, ALL);
        more(x, call(0, 0), gives(0));
        due("a broken one", go(x, 1, 1, 200), broken[0] == CALL ? STOPPED : THREW);
        return x;
    }

    private static void nothingOfABrokenOne() {
        for (long[] broken : new long[][] {isOf(INTS), call(0, 5)}) {
            for (int r = 0; r < 4; r++) {
                endsOf(breaks(broken, gives(r)), 1, 0, 200, RETURNED, 0, 2, 0, 0, 2, 0, 0, 0, 4);
            }
            endsOf(breaks(broken, count(0)), 1, 0, 200, THREW, 0, 2, NULL, 0, 2, 0, 0, 0, 3);
            for (long[] look : new long[][] {again(), let(0), let(1), let(2)}) {
                endsOf(breaks(broken, look), 1, 0, 200, THREW, 0, 2, STATE, 0, 2, 0, 0, 0, 3);
            }
        }
    }

    private static void behindTheLast() {
        ends(of(load(0, 7)), 9, 200, RETURNED, 0, 1, 0, 0, 1, 0, 0, 0, 2);
        StepMarks x = of(call(0, 1), gives(0));
        more(x, load(0, 7));
        ends(x, 9, 200, RETURNED, 0, 2, 0, 0, 2, 0, 0, 0, 4);
    }

    private static void behindNoneAndAll() {
        ends(of(), 9, 200, RETURNED, 0, 1, 0, 0, 1, 0, 0, 0, 1);
        StepMarks x = of(call(0, 1), gives(0));
        more(x);
        ends(x, 9, 200, RETURNED, 0, 2, 0, 0, 2, 0, 0, 0, 3);
        StepMarks forty = of();
        fill(forty, 0, load(0, 7), 40);
        ends(forty, 9, 200, RETURNED, 0, 1, 0, 0, 1, 0, 0, 0, 41);
    }

    private static void calls() {
        StepMarks x = of(load(1, 6), call(1, 1), add(0, 1), gives(0));
        more(x, load(3, 7), times(0, 3), load(1, 99), gives(0));
        ends(x, 100, 200, RETURNED, 142, 2, 0, 0, 2, 0, 0, 0, 8);
        for (int r = 0; r < 4; r++) {
            StepMarks y = of(load(r, MOST), call(r, 1), gives(r));
            more(y, load(1, 1), add(0, 1), gives(0));
            returns(y, 0, LEAST);
        }
        // it calls itself: 5 + 4 + 3 + 2 + 1
        StepMarks sum = of(jumpAbove(0, 2), gives(0), load(1, 0), add(1, 0), load(2, 1), less(1, 2), call(1, 0), add(0, 1), gives(0));
        ends(sum, 5, 200, RETURNED, 15, 6, 0, 0, 6, 0, 0, 0, 5 * 8 + 2);
    }

    private static void eachMethod() {
        StepMarks x = new StepMarks();
        for (int m = 0; m < 6; m++) {
            more(x, jumpAbove(0, 3), load(1, 10 + m), gives(1), load(0, 0), call(0, 5 - m), gives(0));
        }
        for (int m = 0; m < 6; m++) {
            endsOf(x, m, 0, 200, RETURNED, 10 + m, 1);
            endsOf(x, m, 1, 200, RETURNED, 10 + 5 - m, 2);
        }
    }

    private static void callThatThrows() {
        for (int r = 0; r < 4; r++) {
            StepMarks x = of(load(r, 77), call(r, 1), gives(r));
            handler(x, 0, 1, 2, 2, ALL);
            more(x, load(0, 5), load(1, 5), load(2, 5), load(3, 5), count(0));
            ends(x, 0, 200, RETURNED, 77, 3, 0, 0, 2, 1, 0, 0, 3 + 5);
        }
        // through two FRAMES
        StepMarks x = of(call(0, 1), gives(0));
        handler(x, 0, 0, 1, 1, ALL);
        more(x, load(0, 5), call(0, 2), gives(0));
        more(x, throwOwn(0));
        ends(x, 78, 200, RETURNED, 78, 4, 0, 0, 3, 1, 0, 0, 5);
    }

    private static void returnsAny() {
        for (int r = 0; r < 4; r++) {
            for (long v : new long[] {0, 1, -1, 1L << 32, LEAST, MOST}) {
                returns(of(load(r, v), gives(r), load(r, 5), gives(r)), 0, v);
            }
        }
    }
}
