/** Promise 5: STEPS, and THE STOP of a BUDGET. */
public final class P05StepsTest extends Check {
    public static void main(String[] args) {
        promise(5);
        all();
        end();
    }

    static void all() {
        holds("STEPS are counted: 1 as a FRAME begins", P05StepsTest::frames);
        holds("STEPS are counted: none of any other ACT", P05StepsTest::nothingElse);
        holds("MAKE: 1 and as many as there would be cells", P05StepsTest::cells);
        holds("MAKE: (1 if these are below 0)", P05StepsTest::belowZero);
        holds("MAKE: ahead of making: they are counted before SIZE comes", P05StepsTest::aheadOfMaking);
        holds("MAKE: its STEPS are counted by whatever way it is come to", P05StepsTest::eachWay);
        holds("MAKE: its STEPS are of what r tells then", P05StepsTest::whatTheRegisterTells);
        holds("more than the BUDGET tells: as many are not more", P05StepsTest::asMany);
        holds("that is not counted, and what it stands for is not begun: the FRAME (of the run)", P05StepsTest::firstFrame);
        holds("that is not counted, and what it stands for is not begun: the FRAME (of a CALL)", P05StepsTest::laterFrame);
        holds("that is not counted, and what it stands for is not begun: the MAKE", P05StepsTest::theMake);
        holds("the MAKE of more cells than an int, or a long and 1 more, can tell", P05StepsTest::hugeMake);
        holds("the MAKE of so many cells that they wrap, if they are added to what was counted", P05StepsTest::wrappingMake);
        holds("that is not counted: a JUMP back", P05StepsTest::theJump);
        holds("that is not counted, the HANDLER does not take it", P05StepsTest::theHandler);
        holds("the HANDLER does not take it, nor does one after it or above it", P05StepsTest::noOtherHandler);
        holds("BUDGET (0 .. 200): 0 stops the first FRAME, 200 is a BUDGET as any other", P05StepsTest::edgesOfBudget);
    }

    private static void frames() {
        ends(of(), 0, 1, RETURNED, 0, 1, 0, 0, 1, 0, 0, 0, 1);
        for (int n = 1; n <= 39; n++) {
            StepMarks x = of();
            fill(x, 0, call(1, 1), n);
            more(x);
            ends(x, 0, 200, RETURNED, 0, 1 + n, 0, 0, 2, 0, 0, 0, n + n + 1);
            needs(x, 0, 1 + n);
        }
    }

    private static void nothingElse() {
        StepMarks x = of(load(1, 1), make(1, LONGS), add(0, 1), less(0, 1), times(0, 1), over(0, 1), rest(2, 1), jump(8),
            jumpAbove(1, 9), get(3, 2), put(0, 2), isOf(LONGS), count(1), hold(0), let(0), gives(0));
        ends(x, 5, 200, RETURNED, 5, 1 + 2, 0, 0, 1, 0, 1, 1, 16);
        ends(of(throwOwn(0)), 5, 1, THREW, 0, 1);
        ends(of(again()), 5, 1, THREW, 0, 1);
    }

    private static void cells() {
        for (int lane = 0; lane <= 6; lane++) {
            for (int n : new int[] {0, 1, 2, 7, 198}) {
                StepMarks x = of(make(0, lane), gives(0));
                ends(x, n, 200, RETURNED, n, 2 + n, 0, 0, 1, 0, 1, 0, 2);
                needs(x, n, 2 + n);
            }
        }
        StepMarks two = of(make(0, BYTES), make(0, THINGS), gives(0));
        needs(two, 9, 1 + 10 + 10);
    }

    private static void belowZero() {
        for (long n : new long[] {-1, -200, -(1L << 32), LEAST}) {
            StepMarks x = of(make(0, INTS));
            ends(x, n, 200, THREW, 0, 2, SIZE, 0, 1, 0, 0, 0, 1);
            ends(x, n, 2, THREW, 0, 2, SIZE, 0, 1, 0, 0, 0, 1);
            ends(x, n, 1, STOPPED, 0, 1, 0, 0, 1, 0, 0, 0, 0);
        }
    }

    private static void aheadOfMaking() {
        StepMarks x = of(make(0, INTS), gives(0));
        handler(x, 0, 0, 1, 1, ALL);
        ends(x, -5, 3, RETURNED, -5, 3, 0, 0, 1, 1, 0, 0, 2);
        ends(x, -5, 2, STOPPED, 0, 2, 0, 0, 1, 0, 0, 0, 1);
        ends(x, -5, 1, STOPPED, 0, 1, 0, 0, 1, 0, 0, 0, 0);
    }

    private static void eachWay() {
        StepMarks on = of(jump(2), gives(0), make(0, BYTES), count(1), gives(1));
        ends(on, 7, 200, RETURNED, 7, 1 + 8, 0, 0, 1, 0, 1, 0, 4);
        needs(on, 7, 9);
        StepMarks onIfAbove = of(jumpAbove(0, 2), gives(0), make(0, BYTES), count(1), gives(1));
        needs(onIfAbove, 7, 9);
        StepMarks back = of(jump(4), make(0, BYTES), count(1), gives(1), jump(1));
        ends(back, 7, 200, RETURNED, 7, 1 + 1 + 8, 0, 0, 1, 0, 1, 0, 5);
        needs(back, 7, 10);
        StepMarks taken = of(throwOwn(0), gives(0), make(0, BYTES), count(1), gives(1));
        handler(taken, 0, 0, 1, 2, ALL);
        ends(taken, 7, 200, RETURNED, 7, 1 + 1 + 8, 0, 0, 1, 1, 1, 0, 4);
        needs(taken, 7, 10);
        StepMarks behindCall = of(call(0, 1), make(0, BYTES), count(1), gives(1));
        more(behindCall, gives(0));
        ends(behindCall, 7, 200, RETURNED, 7, 1 + 1 + 8, 0, 0, 2, 0, 1, 0, 5);
        needs(behindCall, 7, 10);
    }

    private static void whatTheRegisterTells() {
        for (int r = 0; r < 4; r++) {
            StepMarks x = of(load(0, 9), load(1, 9), load(2, 9), load(3, 9), load(r, 4), make(r, INTS), load(r, 2), make(r, INTS));
            ends(x, 5, 200, RETURNED, 0, 1 + 5 + 3, 0, 0, 1, 0, 2, 0, 9);
            needs(x, 5, 9);
        }
    }

    private static void asMany() {
        // a FRAME, a JUMP back, a MAKE of 2 cells, a HANDLER, a FRAME: 1 + 1 + 3 + 1 + 1
        StepMarks x = of(jump(3), load(1, 2), jump(4), jump(1), make(1, INTS), throwOwn(0), call(0, 1), gives(0));
        handler(x, 0, 5, 6, 6, ALL);
        more(x, gives(0));
        ends(x, 9, 200, RETURNED, 9, 7, 0, 0, 2, 1, 1, 0, 9);
        int[] steps = {0, 1, 2, 2, 2, 5, 6};
        int[] begun = {0, 2, 4, 4, 4, 6, 7};
        for (int budget = 0; budget < 7; budget++) {
            int made = budget >= 5 ? 1 : 0;
            ends(x, 9, budget, STOPPED, 0, steps[budget], 0, 0, budget == 0 ? 0 : 1, budget == 6 ? 1 : 0, made, 0, begun[budget]);
        }
        ends(x, 9, 7, RETURNED, 9, 7, 0, 0, 2, 1, 1, 0, 9);
    }

    private static void firstFrame() {
        StepMarks x = of(hold(0), make(0, BYTES), throwOwn(0));
        handler(x, 0, 0, 40, 0, ALL);
        ends(x, 5, 0, STOPPED, 0, 0, 0, 0, 0, 0, 0, 0, 0);
    }

    private static void laterFrame() {
        StepMarks x = of(call(0, 1), gives(0));
        more(x, hold(0), gives(0));
        ends(x, 5, 1, STOPPED, 0, 1, 0, 0, 1, 0, 0, 0, 1);
        ends(x, 5, 2, RETURNED, 5, 2, 0, 0, 2, 0, 0, 1, 4);
        StepMarks deep = of(call(0, 0));
        for (int budget = 0; budget <= 12; budget++) {
            ends(deep, 5, budget, STOPPED, 0, budget, 0, 0, budget, 0, 0, 0, budget);
        }
    }

    private static void theMake() {
        for (int lane = 0; lane <= 6; lane++) {
            StepMarks x = of(make(0, lane));
            ends(x, 0, 1, STOPPED, 0, 1, 0, 0, 1, 0, 0, 0, 0);
            ends(x, 0, 2, RETURNED, 0, 2, 0, 0, 1, 0, 1, 0, 2);
            ends(x, 5, 6, STOPPED, 0, 1, 0, 0, 1, 0, 0, 0, 0);
            ends(x, 5, 7, RETURNED, 0, 7, 0, 0, 1, 0, 1, 0, 2);
            ends(x, 198, 200, RETURNED, 0, 200, 0, 0, 1, 0, 1, 0, 2);
            ends(x, 199, 200, STOPPED, 0, 1, 0, 0, 1, 0, 0, 0, 0);
            ends(x, 200, 200, STOPPED, 0, 1, 0, 0, 1, 0, 0, 0, 0);
        }
        // none of its STEPS is counted, also if some of them were within the BUDGET
        StepMarks two = of(make(0, BYTES), make(0, BYTES));
        ends(two, 5, 12, STOPPED, 0, 7, 0, 0, 1, 0, 1, 0, 1);
        ends(two, 5, 13, RETURNED, 0, 13, 0, 0, 1, 0, 2, 0, 3);
    }

    private static void hugeMake() {
        StepMarks x = of(make(0, BYTES), gives(0));
        handler(x, 0, 0, 1, 1, ALL);
        long[] huge = {201, Integer.MAX_VALUE - 1L, Integer.MAX_VALUE, 1L << 31, (1L << 32) - 1, 1L << 32, (1L << 32) + 1, MOST - 200, MOST - 1, MOST};
        for (long n : huge) {
            ends(x, n, 200, STOPPED, 0, 1, 0, 0, 1, 0, 0, 0, 0);
        }
    }

    private static void wrappingMake() {
        StepMarks x = of(load(1, 100), make(1, BYTES), make(0, BYTES));
        for (long n : new long[] {98, 99, Integer.MAX_VALUE - 101L, Integer.MAX_VALUE, MOST - 102, MOST - 101, MOST - 1, MOST}) {
            ends(x, n, 200, STOPPED, 0, 102, 0, 0, 1, 0, 1, 0, 2);
        }
        ends(x, 97, 200, RETURNED, 0, 200, 0, 0, 1, 0, 2, 0, 4);
    }

    private static void theJump() {
        for (int budget = 1; budget <= 200; budget++) {
            ends(of(jump(0)), 5, budget, STOPPED, 0, budget, 0, 0, 1, 0, 0, 0, budget);
        }
        // it is not begun where it leads to
        StepMarks x = of(jump(2), gives(0), jump(1));
        ends(x, 5, 1, STOPPED, 0, 1, 0, 0, 1, 0, 0, 0, 2);
        ends(x, 5, 2, RETURNED, 5, 2, 0, 0, 1, 0, 0, 0, 3);
    }

    private static void theHandler() {
        StepMarks x = of(throwOwn(0));
        handler(x, 0, 0, 1, 1, ALL);
        ends(x, 5, 1, STOPPED, 0, 1, 0, 0, 1, 0, 0, 0, 1);
        ends(x, 5, 2, RETURNED, 0, 2, 0, 0, 1, 1, 0, 0, 2);
    }

    private static void noOtherHandler() {
        StepMarks x = of(call(0, 1), gives(0));
        handler(x, 0, 0, 1, 1, ALL);
        more(x, throwOwn(0), gives(0));
        handler(x, 1, 0, 1, 1, 1 << OWN);
        handler(x, 1, 0, 1, 1, ALL);
        ends(x, 5, 2, STOPPED, 0, 2, 0, 0, 2, 0, 0, 0, 2);
        ends(x, 5, 3, RETURNED, 5, 3, 0, 0, 2, 1, 0, 0, 4);
    }

    private static void edgesOfBudget() {
        StepMarks x = of(jumpAbove(0, 0), gives(0));
        ends(x, 0, 0, STOPPED, 0, 0, 0, 0, 0, 0, 0, 0, 0);
        ends(x, 0, 1, RETURNED, 0, 1);
        ends(x, 1, 199, STOPPED, 0, 199, 0, 0, 1, 0, 0, 0, 199);
        ends(x, 1, 200, STOPPED, 0, 200, 0, 0, 1, 0, 0, 0, 200);
    }
}
