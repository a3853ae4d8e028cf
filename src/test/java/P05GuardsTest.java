/** Promise 5: GUARDS that FRAMES hold. */
public final class P05GuardsTest extends Check {
    public static void main(String[] args) {
        promise(5);
        all();
        end();
    }

    static void all() {
        holds("17 HOLD GUARD v once more.", P05GuardsTest::onceMore);
        holds("18 LET GUARD v go once", P05GuardsTest::once);
        holds("LET: STATE, if the FRAME does not hold it", P05GuardsTest::notHeld);
        holds("LET: STATE, if it does not hold it any more", P05GuardsTest::notHeldAnyMore);
        holds("LET: STATE, if only another GUARD is held", P05GuardsTest::another);
        holds("LET: STATE, if only another FRAME holds it", P05GuardsTest::anotherFrame);
        holds("A FRAME that ends by RETURN lets all GUARDS go that it holds.", P05GuardsTest::endsByReturn);
        holds("A FRAME that ends behind the last INSTRUCTION lets all GUARDS go that it holds.", P05GuardsTest::endsBehind);
        holds("A FRAME that ends by a THROW lets all GUARDS go that it holds.", P05GuardsTest::endsByThrow);
        holds("A FRAME that ends by THE STOP lets all GUARDS go that it holds.", P05GuardsTest::endsByStop);
        holds("A FRAME that goes on in a HANDLER holds them still", P05GuardsTest::handlerHolds);
        holds("A FRAME that ends leaves its caller's GUARDS", P05GuardsTest::callerHolds);
    }

    private static void onceMore() {
        for (int guard = 0; guard < 3; guard++) {
            for (int times : new int[] {1, 2, 39, 40}) {
                StepMarks x = of();
                fill(x, 0, hold(guard), times);
                ends(x, 0, 200, RETURNED, 0, 1, 0, 0, 1, 0, 0, times, times + 1);
            }
        }
        // as often as it was held it can be let go
        for (int times = 1; times <= 19; times++) {
            StepMarks x = of();
            fill(x, 0, hold(1), times);
            fill(x, 0, let(1), times);
            ends(x, 0, 200, RETURNED, 0, 1, 0, 0, 1, 0, 0, times, 2 * times + 1);
            fill(x, 0, let(1), 1);
            ends(x, 0, 200, THREW, 0, 1, STATE, 0, 1, 0, 0, times, 2 * times + 1);
        }
        // 49 rounds of 40
        StepMarks many = of(load(1, 1), less(0, 1));
        fill(many, 0, hold(2), 37);
        fill(many, 0, jumpAbove(0, 0), 1);
        ends(many, 49, 200, RETURNED, 0, 49, 0, 0, 1, 0, 0, 37 * 49, 40 * 49 + 1);
    }

    private static void once() {
        StepMarks x = of(hold(1), hold(1), hold(1), let(1), hold(1), let(1), let(1), let(1), gives(0));
        ends(x, 4, 200, RETURNED, 4, 1, 0, 0, 1, 0, 0, 3, 9);
    }

    private static void notHeld() {
        for (int guard = 0; guard < 3; guard++) {
            ends(of(let(guard)), 4, 200, THREW, 0, 1, STATE, 0, 1, 0, 0, 0, 1);
        }
    }

    private static void notHeldAnyMore() {
        for (int guard = 0; guard < 3; guard++) {
            StepMarks x = of(hold(guard), hold(guard), let(guard), let(guard), let(guard), gives(0));
            ends(x, 4, 200, THREW, 0, 1, STATE, 0, 1, 0, 0, 2, 5);
            // it is not held less than not at all
            StepMarks y = of(let(guard), hold(guard), let(guard), gives(0));
            handler(y, 0, 0, 1, 1, ALL);
            ends(y, 4, 200, RETURNED, 4, 2, 0, 0, 1, 1, 0, 1, 4);
        }
    }

    private static void another() {
        for (int guard = 0; guard < 3; guard++) {
            for (int more = 1; more <= 2; more++) {
                StepMarks x = of(hold(guard), let((guard + more) % 3));
                ends(x, 4, 200, THREW, 0, 1, STATE, 0, 1, 0, 0, 1, 2);
            }
        }
    }

    private static void anotherFrame() {
        for (int guard = 0; guard < 3; guard++) {
            StepMarks caller = of(hold(guard), call(0, 1));
            more(caller, let(guard));
            ends(caller, 4, 200, THREW, 0, 2, STATE, 0, 2, 0, 0, 1, 3);
            StepMarks called = of(call(0, 1), let(guard));
            more(called, hold(guard));
            ends(called, 4, 200, THREW, 0, 2, STATE, 0, 2, 0, 0, 1, 4);
        }
    }

    private static void endsByReturn() {
        StepMarks x = of(call(0, 1), call(0, 1), call(0, 1));
        more(x, hold(0), hold(1), hold(2), hold(2), gives(0));
        ends(x, 4, 200, RETURNED, 0, 4, 0, 0, 2, 0, 0, 4, 4 + 15);
    }

    private static void endsBehind() {
        StepMarks x = of(call(0, 1), call(0, 1), call(0, 1));
        more(x, hold(0), hold(1), hold(2), hold(2));
        ends(x, 4, 200, RETURNED, 0, 4, 0, 0, 2, 0, 0, 4, 4 + 15);
    }

    private static void endsByThrow() {
        StepMarks x = of(call(0, 1), call(0, 1), hold(0), hold(0));
        handler(x, 0, 0, 1, 1, ALL);
        handler(x, 0, 1, 2, 2, ALL);
        more(x, hold(1), hold(0), hold(2), throwOwn(0));
        ends(x, 0, 200, RETURNED, 0, 5, 0, 0, 2, 2, 0, 3, 5 + 8);
    }

    private static void endsByStop() {
        StepMarks x = of(hold(0), hold(1), jump(2));
        for (int n = 0; n < 3; n++) {
            ends(x, 0, 5, STOPPED, 0, 5, 0, 0, 1, 0, 0, 2, 7);
        }
        StepMarks deep = of(hold(2), call(0, 0));
        for (int n = 0; n < 3; n++) {
            ends(deep, 0, 200, STOPPED, 0, 12, 0, 0, 12, 0, 0, 12, 24);
        }
    }

    private static void handlerHolds() {
        StepMarks x = of(hold(0), throwOwn(0), hold(0), let(0), let(0), gives(0));
        handler(x, 0, 1, 2, 2, ALL);
        ends(x, 4, 200, RETURNED, 4, 2, 0, 0, 1, 1, 0, 2, 6);
    }

    private static void callerHolds() {
        StepMarks x = of(hold(0), hold(1), call(0, 1), let(0), let(1), let(1));
        more(x, hold(0), hold(1));
        ends(x, 4, 200, THREW, 0, 2, STATE, 0, 2, 0, 0, 4, 6 + 3);
        StepMarks y = of(hold(0), hold(1), call(0, 1), let(0), let(1), let(1));
        handler(y, 0, 2, 3, 3, ALL);
        more(y, hold(0), hold(1), throwOwn(0));
        ends(y, 4, 200, THREW, 0, 3, STATE, 0, 2, 1, 0, 4, 6 + 3);
    }
}
