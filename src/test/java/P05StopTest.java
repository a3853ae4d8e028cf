/** Promise 5: THE STOP that comes of something else than the BUDGET, and that it is no THROW. */
public final class P05StopTest extends Check {
    public static void main(String[] args) {
        promise(5);
        all();
        end();
    }

    static void all() {
        holds("THE STOP comes as a 13th FRAME should begin", P05StopTest::thirteenth);
        holds("as a 13th FRAME should begin (ahead of counting)", P05StopTest::thirteenthIsNotCounted);
        holds("a 13th FRAME: 12 at a time are fine, however many begin in all", P05StopTest::manyInAll);
        holds("a 13th FRAME: one that ended by a THROW is none any more", P05StopTest::endedByThrow);
        holds("THE STOP comes as one of no METHOD should begin (ahead of counting)", P05StopTest::ofNoMethod);
        holds("THE STOP comes as one of a METHOD that is TOO LARGE should begin (ahead of counting)", P05StopTest::ofLarge);
        holds("TOO LARGE: of 70 ENTRIES a METHOD is not, of 71 it is", P05StopTest::edgeOfLarge);
        holds("THE STOP comes as a HANDLER should take the 31st THROW of a run", P05StopTest::thirtyFirst);
        holds("the 31st THROW of a run (likewise: ahead of counting)", P05StopTest::thirtyFirstIsNotCounted);
        holds("the 31st THROW of a run: in all FRAMES and HANDLERS together", P05StopTest::thirtyFirstOfAll);
        holds("as a HANDLER should take the 31st: one that no HANDLER would take is a THROW", P05StopTest::thirtyFirstNotTaken);
        holds("THE STOP comes as the 2001st INSTRUCTION of a run should begin", P05StopTest::late);
        holds("the 2001st INSTRUCTION of a run: in all FRAMES together", P05StopTest::lateInAll);
        holds("the 2001st INSTRUCTION: behind the MARK of the JUMP that led to it", P05StopTest::lateBehindJump);
        holds("the 2001st INSTRUCTION (of MAKE behind its STEPS)", P05StopTest::lateMake);
        holds("the 2001st INSTRUCTION (of MAKE behind its STEPS): below 0, too many, none left", P05StopTest::lateMakeEdges);
        holds("the 2001st INSTRUCTION: the RETURN 0 behind the last one is one, too", P05StopTest::lateEnd);
        holds("the 2001st INSTRUCTION of a run: each run begins anew", P05StopTest::anew);
        holds("THE STOP is no THROW: no HANDLER takes it", P05StopTest::noHandler);
        holds("THE STOP is no THROW: told(1), told(2) are 0 after a THROW that was on its way, or taken", P05StopTest::noThrow);
        holds("all FRAMES end: a run after THE STOP has all 12 again", P05StopTest::allEnd);
    }

    private static void thirteenth() {
        StepMarks x = of(call(0, 0));
        ends(x, 0, 200, STOPPED, 0, 12, 0, 0, 12, 0, 0, 0, 12);
        // one that goes 12 deep RETURNS, one that goes 13 deep does not
        StepMarks y = of(load(1, 1), less(0, 1), jumpAbove(0, 4), gives(1), call(0, 0), gives(0));
        ends(y, 11, 200, RETURNED, 1, 11, 0, 0, 11, 0, 0, 0, 11 * 4 + 10);
        ends(y, 12, 200, RETURNED, 1, 12, 0, 0, 12, 0, 0, 0, 12 * 4 + 11);
        ends(y, 13, 200, STOPPED, 0, 12, 0, 0, 12, 0, 0, 0, 12 * 4);
        ends(y, MOST, 200, STOPPED, 0, 12, 0, 0, 12, 0, 0, 0, 12 * 4);
    }

    private static void thirteenthIsNotCounted() {
        StepMarks x = of(call(0, 0));
        ends(x, 0, 11, STOPPED, 0, 11, 0, 0, 11, 0, 0, 0, 11);
        ends(x, 0, 12, STOPPED, 0, 12, 0, 0, 12, 0, 0, 0, 12);
        ends(x, 0, 13, STOPPED, 0, 12, 0, 0, 12, 0, 0, 0, 12);
    }

    private static void manyInAll() {
        StepMarks x = of(load(2, 1), call(1, 1), less(0, 2), jumpAbove(0, 1));
        more(x);
        ends(x, 100, 200, RETURNED, 0, 1 + 100 + 99, 0, 0, 2, 0, 0, 0, 1 + 400 + 1);
        // 12 deep, and there 3 times after one another
        StepMarks y = of(load(1, 1), less(0, 1), jumpAbove(0, 7), call(2, 1), call(2, 1), call(2, 1), gives(1), call(0, 0), gives(0));
        more(y, gives(0));
        ends(y, 11, 200, RETURNED, 1, 11 + 3, 0, 0, 12, 0, 0, 0, 10 * 4 + 7 + 3 + 10);
        ends(y, 12, 200, STOPPED, 0, 12, 0, 0, 12, 0, 0, 0, 11 * 4 + 4);
    }

    private static void endedByThrow() {
        StepMarks x = of(load(2, 1), call(1, 1), less(0, 2), jumpAbove(0, 1));
        handler(x, 0, 1, 2, 2, ALL);
        more(x, call(0, 2));
        more(x, count(0));
        ends(x, 15, 200, RETURNED, 0, 1 + 15 * 3 + 14, 0, 0, 3, 15, 0, 0, 1 + 15 * 5 + 1);
    }

    private static void ofNoMethod() {
        for (int m = 1; m <= 5; m++) {
            StepMarks x = of(hold(1), call(0, m));
            ends(x, 0, 200, STOPPED, 0, 1, 0, 0, 1, 0, 0, 1, 2);
            ends(x, 0, 1, STOPPED, 0, 1, 0, 0, 1, 0, 0, 1, 2);
        }
        // one that was there, and is no more
        StepMarks x = of(call(0, 1));
        more(x);
        ends(x, 0, 200, RETURNED, 0);
        x.clear();
        more(x, call(0, 1));
        ends(x, 0, 200, STOPPED, 0, 1, 0, 0, 1, 0, 0, 0, 1);
    }

    private static void ofLarge() {
        StepMarks x = of(call(0, 1), gives(0));
        moreLarge(x);
        ends(x, 3, 200, STOPPED, 0, 1, 0, 0, 1, 0, 0, 0, 1);
        ends(x, 3, 1, STOPPED, 0, 1, 0, 0, 1, 0, 0, 0, 1);
        // one that is there, but not reached, does no harm
        StepMarks y = of(jumpAbove(0, 2), call(0, 1), gives(0));
        moreLarge(y);
        ends(y, 3, 200, RETURNED, 3, 1, 0, 0, 1, 0, 0, 0, 2);
        ends(y, 0, 200, STOPPED, 0, 1, 0, 0, 1, 0, 0, 0, 2);
    }

    private static void edgeOfLarge() {
        StepMarks x = of(call(0, 1), gives(0));
        more(x, jumpAbove(0, 3));
        fill(x, 1, make(1, BYTES), 33);
        fill(x, 1, gives(0), 1);
        due("70", x.entries(1), 70);
        ends(x, 3, 200, RETURNED, 3, 2 + 31, 0, 0, 2, 0, 31, 0, 2 + 33);
        fill(x, 1, gives(0), 1);
        due("71", x.entries(1), LARGE);
        ends(x, 3, 200, STOPPED, 0, 1, 0, 0, 1, 0, 0, 0, 1);
    }

    private static StepMarks loopOfThrows() {
        StepMarks x = of(load(1, 1), less(0, 1), jumpAbove(0, 4), gives(1), count(3));
        handler(x, 0, 4, 5, 1, ALL);
        return x;
    }

    private static void thirtyFirst() {
        StepMarks x = loopOfThrows();
        ends(x, 30, 200, RETURNED, 1, 30, 0, 0, 1, 29, 0, 0, 1 + 29 * 3 + 3);
        ends(x, 31, 200, RETURNED, 1, 31, 0, 0, 1, 30, 0, 0, 1 + 30 * 3 + 3);
        ends(x, 32, 200, STOPPED, 0, 31, 0, 0, 1, 30, 0, 0, 1 + 31 * 3);
        ends(x, 33, 200, STOPPED, 0, 31, 0, 0, 1, 30, 0, 0, 1 + 31 * 3);
    }

    private static void thirtyFirstIsNotCounted() {
        StepMarks x = of(count(1), gives(0));
        handler(x, 0, 0, 1, 0, ALL);
        ends(x, 0, 200, STOPPED, 0, 31, 0, 0, 1, 30, 0, 0, 31);
        ends(x, 0, 32, STOPPED, 0, 31, 0, 0, 1, 30, 0, 0, 31);
        ends(x, 0, 31, STOPPED, 0, 31, 0, 0, 1, 30, 0, 0, 31);
        ends(x, 0, 30, STOPPED, 0, 30, 0, 0, 1, 29, 0, 0, 30);
    }

    /** Each CALL takes a THROW, and its caller takes another: the 15th CALL is fine, the 16th is too many. */
    private static void thirtyFirstOfAll() {
        StepMarks x = of(load(1, 1), call(0, 1), less(0, 1), jumpAbove(0, 1), gives(1));
        handler(x, 0, 1, 2, 2, ALL);
        more(x, count(0), throwOwn(0));
        handler(x, 1, 0, 1, 1, ALL);
        ends(x, 15, 200, RETURNED, 1, 1 + 15 * 3 + 14, 0, 0, 2, 30, 0, 0, 1 + 15 * 5 + 1);
        ends(x, 16, 200, STOPPED, 0, 1 + 15 * 3 + 15 + 1, 0, 0, 2, 30, 0, 0, 1 + 15 * 5 + 2);
    }

    private static void thirtyFirstNotTaken() {
        StepMarks x = of(load(1, 1), less(0, 1), jumpAbove(0, 4), over(0, 2), count(3));
        handler(x, 0, 4, 5, 1, ALL);
        ends(x, 31, 200, THREW, 0, 31, ZERO, 0, 1, 30, 0, 0, 1 + 30 * 3 + 3);
        ends(x, 32, 200, STOPPED, 0, 31, 0, 0, 1, 30, 0, 0, 1 + 31 * 3);
    }

    /** A round of 40 INSTRUCTIONS: 50 rounds are 2000. */
    private static void late() {
        StepMarks x = of(load(1, 1), less(0, 1));
        fill(x, 0, add(2, 1), 37);
        fill(x, 0, jumpAbove(0, 0), 1);
        ends(x, 49, 200, RETURNED, 0, 49, 0, 0, 1, 0, 0, 0, 49 * 40 + 1);
        ends(x, 50, 200, STOPPED, 0, 50, 0, 0, 1, 0, 0, 0, 2000);
        ends(x, 51, 200, STOPPED, 0, 51, 0, 0, 1, 0, 0, 0, 2000);
        ends(x, 60, 200, STOPPED, 0, 51, 0, 0, 1, 0, 0, 0, 2000);
        // the 2000th itself is begun, and done: a THROW of it is one
        for (int adds = 35; adds <= 37; adds++) {
            StepMarks y = of(load(1, 49), call(1, 1));
            fill(y, 0, add(2, 3), adds);
            fill(y, 0, throwOwn(0), 1);
            more(y, load(1, 1), less(0, 1));
            fill(y, 1, add(2, 1), 37);
            fill(y, 1, jumpAbove(0, 0), 1);
            int begun = 2 + 49 * 40 + 1 + adds + 1;
            ends(y, 8, 200, begun <= 2000 ? THREW : STOPPED, 0, 1 + 49, begun <= 2000 ? OWN : 0, begun <= 2000 ? 8 : 0, 2, 0, 0, 0,
                Math.min(begun, 2000));
        }
    }

    private static void lateInAll() {
        StepMarks x = of(load(2, 1), load(1, 1), call(1, 1), less(0, 2), jumpAbove(0, 1));
        more(x);
        fill(x, 1, add(2, 3), 35);
        // 1, and rounds of 40: 4 here, 36 there
        ends(x, 49, 200, RETURNED, 0, 1 + 49 + 48, 0, 0, 2, 0, 0, 0, 1 + 49 * 40 + 1);
        ends(x, 50, 200, STOPPED, 0, 1 + 50 + 49, 0, 0, 2, 0, 0, 0, 2000);
    }

    private static void lateBehindJump() {
        StepMarks x = of();
        fill(x, 0, add(1, 2), 39);
        fill(x, 0, jump(0), 1);
        ends(x, 0, 200, STOPPED, 0, 1 + 50, 0, 0, 1, 0, 0, 0, 2000);
        ends(x, 0, 51, STOPPED, 0, 51, 0, 0, 1, 0, 0, 0, 2000);
        ends(x, 0, 50, STOPPED, 0, 50, 0, 0, 1, 0, 0, 0, 2000);
        ends(x, 0, 49, STOPPED, 0, 49, 0, 0, 1, 0, 0, 0, 1960);
    }

    /** The first of each round of 40 is a MAKE of as many cells as REGISTER 3 tells. */
    private static StepMarks roundsWithMake() {
        StepMarks x = of(make(3, BYTES));
        fill(x, 0, add(1, 2), 38);
        fill(x, 0, jump(0), 1);
        return x;
    }

    private static void lateMake() {
        StepMarks x = roundsWithMake();
        ends(x, 0, 200, STOPPED, 0, 1 + 50 + 51, 0, 0, 1, 0, 50, 0, 2000);
        ends(x, 0, 102, STOPPED, 0, 102, 0, 0, 1, 0, 50, 0, 2000);
        ends(x, 0, 101, STOPPED, 0, 101, 0, 0, 1, 0, 50, 0, 2000);
    }

    /** The 2001st is a MAKE of what METHOD 0 gets. */
    private static void lateMakeEdges() {
        StepMarks x = of(load(1, 49), call(1, 1));
        fill(x, 0, add(2, 3), 37);
        fill(x, 0, make(0, INTS), 1);
        handler(x, 0, 0, 40, 40, ALL);
        more(x, load(1, 1), less(0, 1));
        fill(x, 1, add(2, 1), 37);
        fill(x, 1, jumpAbove(0, 0), 1);
        ends(x, 0, 200, STOPPED, 0, 50 + 1, 0, 0, 2, 0, 0, 0, 2000);
        ends(x, 7, 200, STOPPED, 0, 50 + 8, 0, 0, 2, 0, 0, 0, 2000);
        ends(x, -7, 200, STOPPED, 0, 50 + 1, 0, 0, 2, 0, 0, 0, 2000);
        ends(x, 149, 200, STOPPED, 0, 200, 0, 0, 2, 0, 0, 0, 2000);
        ends(x, 150, 200, STOPPED, 0, 50, 0, 0, 2, 0, 0, 0, 2000);
        ends(x, MOST, 200, STOPPED, 0, 50, 0, 0, 2, 0, 0, 0, 2000);
        ends(x, 0, 50, STOPPED, 0, 50, 0, 0, 2, 0, 0, 0, 2000);
    }

    private static void lateEnd() {
        for (int adds = 35; adds <= 37; adds++) {
            StepMarks x = of(load(1, 49), call(1, 1));
            fill(x, 0, add(2, 3), adds);
            more(x, load(1, 1), less(0, 1));
            fill(x, 1, add(2, 1), 37);
            fill(x, 1, jumpAbove(0, 0), 1);
            int begun = 2 + 49 * 40 + 1 + adds + 1;
            ends(x, 0, 200, begun <= 2000 ? RETURNED : STOPPED, 0, 1 + 49, 0, 0, 2, 0, 0, 0, Math.min(begun, 2000));
        }
    }

    private static void anew() {
        StepMarks x = roundsWithMake();
        handler(x, 0, 0, 40, 0, ALL);
        for (int n = 0; n < 3; n++) {
            ends(x, 0, 200, STOPPED, 0, 1 + 50 + 51, 0, 0, 1, 0, 50, 0, 2000);
        }
        StepMarks y = loopOfThrows();
        for (int n = 0; n < 3; n++) {
            ends(y, 31, 200, RETURNED, 1, 31, 0, 0, 1, 30, 0, 0, 1 + 30 * 3 + 3);
        }
    }

    /** Each that is THE STOP, with HANDLERS for all in the FRAME and above it. */
    private static void noHandler() {
        long[][] stops = {call(0, 0), call(0, 4), call(0, 3), jump(0)};
        for (long[] stop : stops) {
            StepMarks x = of(stop, load(0, 5), gives(0));
            handler(x, 0, 0, 40, 1, ALL);
            more(x, call(0, 0), load(0, 6), gives(0));
            handler(x, 1, 0, 40, 1, ALL);
            more(x, load(2, 300), make(2, BYTES), load(0, 7), gives(0));
            handler(x, 2, 0, 40, 2, ALL);
            moreLarge(x);
            ends(x, 1, 200, STOPPED, 0);
            due("HANDLERS took", x.told(4), 0);
            endsOf(x, 1, 1, 200, STOPPED, 0);
            due("HANDLERS took", x.told(4), 0);
            endsOf(x, 2, 1, 200, STOPPED, 0, 1, 0, 0, 1, 0, 0, 0, 1);
        }
        // the 31st THROW, and the 2001st INSTRUCTION, below a FRAME that would take all
        StepMarks thrown = of(count(1));
        handler(thrown, 0, 0, 1, 0, ALL);
        more(thrown, call(0, 0));
        handler(thrown, 1, 0, 1, 1, ALL);
        endsOf(thrown, 1, 0, 200, STOPPED, 0, 32, 0, 0, 2, 30, 0, 0, 32);
        StepMarks late = of();
        fill(late, 0, add(1, 2), 39);
        fill(late, 0, jump(0), 1);
        handler(late, 0, 0, 40, 0, ALL);
        more(late, call(0, 0));
        handler(late, 1, 0, 1, 1, ALL);
        endsOf(late, 1, 0, 200, STOPPED, 0, 2 + 49, 0, 0, 2, 0, 0, 0, 2000);
    }

    private static void noThrow() {
        StepMarks x = of(throwOwn(0), call(0, 5));
        handler(x, 0, 0, 1, 1, ALL);
        ends(x, 9, 200, STOPPED, 0, 2, 0, 0, 1, 1, 0, 0, 2);
        ends(x, 9, 1, STOPPED, 0, 1, 0, 0, 1, 0, 0, 0, 1);
        StepMarks y = of(throwOwn(0));
        ends(y, 9, 200, THREW, 0, 1, OWN, 9);
        ends(y, 9, 0, STOPPED, 0, 0, 0, 0);
    }

    private static void allEnd() {
        StepMarks x = of(hold(0), make(1, INTS), call(0, 0));
        for (int n = 0; n < 4; n++) {
            ends(x, 0, 200, STOPPED, 0, 24, 0, 0, 12, 0, 12, 12, 36);
        }
    }
}
