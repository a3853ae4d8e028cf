/** Promise 8: told(). */
public final class P08ToldTest extends Check {
    public static void main(String[] args) {
        for (int way = 0; way < 2; way++) {
            promise(8, way == 1);
            String by = way == 1 ? " (step)" : " (run)";
            holds("what = 0 STEPS counted" + by, P08ToldTest::steps);
            holds("what = 1 the THROW (0 none)" + by, P08ToldTest::theThrow);
            holds("what = 2 its number (0 but of OWN)" + by, P08ToldTest::itsNumber);
            holds("what = 3 FRAMES at most at a time (that begun)" + by, P08ToldTest::frames);
            holds("what = 4 THROWS that HANDLERS took" + by, P08ToldTest::taken);
            holds("what = 5 ROWS made" + by, P08ToldTest::rows);
            holds("what = 6 how often GUARDS were held at most at a time" + by, P08ToldTest::held);
            holds("what = 6 all FRAMES and GUARDS together" + by, P08ToldTest::heldTogether);
            holds("what = 7 INSTRUCTIONS that begun (the RETURN 0 behind the last one, too)" + by, P08ToldTest::begun);
            holds("Of the latest: nothing is left of the one before" + by, P08ToldTest::latestAlone);
            holds("a refused one is not the latest: BAD, LARGE" + by, P08ToldTest::refused);
        }
        promise(8);
        holds("0 before any", P08ToldTest::beforeAny);
        holds("BAD: what", P08ToldTest::wrong);
        end();
    }

    private static void told(StepMarks x, long arg, int budget, int what, int due) {
        go(x, 0, arg, budget);
        due("told(" + what + ") with " + arg + ", " + budget, x.told(what), due);
    }

    private static void steps() {
        StepMarks x = of(load(1, 1), make(0, INTS), less(0, 1), jumpAbove(0, 1), throwOwn(0), call(0, 1));
        handler(x, 0, 4, 5, 5, ALL);
        more(x);
        told(x, 1, 200, 0, 1 + 2 + 1 + 1);
        told(x, 3, 200, 0, 1 + 4 + 1 + 3 + 1 + 2 + 1 + 1);
        told(x, 3, 0, 0, 0);
        told(x, 3, 4, 0, 1);
        told(x, 3, 5, 0, 5);
        told(x, -1, 200, 0, 2);
    }

    private static void theThrow() {
        StepMarks x = of(jumpAbove(0, 3), over(1, 0), gives(0), count(0));
        told(x, -1, 200, 1, 0);
        told(x, 0, 200, 1, ZERO);
        told(x, 1, 200, 1, NULL);
        told(x, 1, 0, 1, 0);
        // one that a HANDLER took is none of the run
        handler(x, 0, 1, 2, 2, ALL);
        told(x, 0, 200, 1, 0);
        told(x, 1, 200, 1, NULL);
    }

    private static void itsNumber() {
        StepMarks x = of(jumpAbove(0, 2), count(0), throwOwn(0));
        told(x, 6, 200, 2, 6);
        told(x, 0, 200, 2, 0);
        told(x, (1L << 32) + 9, 200, 2, 9);
        // OWN was caught with a number, then comes another THROW
        StepMarks y = of(throwOwn(0), count(0));
        handler(y, 0, 0, 1, 1, ALL);
        told(y, 6, 200, 2, 0);
        StepMarks z = of(throwOwn(0), call(1, 5));
        handler(z, 0, 0, 1, 1, ALL);
        told(z, 6, 200, 2, 0);
        StepMarks again = of(throwOwn(0), let(1), again());
        handler(again, 0, 0, 1, 1, ALL);
        handler(again, 0, 1, 2, 2, ALL);
        told(again, 6, 200, 2, 0);
        due("it is the STATE", again.told(1), STATE);
    }

    private static void frames() {
        StepMarks x = of(call(1, 1), call(1, 2), call(1, 1));
        more(x);
        more(x, call(0, 1));
        told(x, 0, 200, 3, 3);
        told(x, 0, 0, 3, 0);
        told(x, 0, 1, 3, 1);
        told(x, 0, 2, 3, 2);
        told(x, 0, 3, 3, 2);
        told(x, 0, 4, 3, 3);
        told(of(call(0, 0)), 0, 200, 3, 12);
        told(of(call(0, 1)), 0, 200, 3, 1);
    }

    private static void taken() {
        StepMarks x = of(load(1, 1), count(2), less(0, 1), jumpAbove(0, 1), throwOwn(0));
        handler(x, 0, 1, 2, 2, ALL);
        told(x, 1, 200, 4, 1);
        told(x, 30, 200, 4, 30);
        told(x, 31, 200, 4, 30);
        told(x, 5, 1, 4, 0);
        told(x, 5, 2, 4, 1);
        // through FRAMES it is one, where it is taken
        StepMarks y = of(call(0, 1));
        handler(y, 0, 0, 1, 1, ALL);
        more(y, call(0, 2));
        more(y, count(0));
        told(y, 0, 200, 4, 1);
    }

    private static void rows() {
        StepMarks x = of(load(1, 1), make(2, RICH), less(0, 1), jumpAbove(0, 1), call(2, 1));
        more(x, make(0, BYTES));
        told(x, 0, 200, 5, 2);
        told(x, 10, 200, 5, 11);
        told(x, 10, 0, 5, 0);
        told(x, 10, 2, 5, 1);
        told(of(make(0, INTS)), -1, 200, 5, 0);
        told(of(make(0, INTS)), 199, 200, 5, 0);
        told(of(make(0, INTS)), 198, 200, 5, 1);
        StepMarks size = of(make(0, INTS), make(1, INTS));
        handler(size, 0, 0, 1, 1, ALL);
        told(size, -1, 200, 5, 1);
    }

    private static void held() {
        StepMarks x = of();
        for (int n = 0; n < 10; n++) {
            fill(x, 0, hold(1), 1);
            fill(x, 0, hold(2), 1);
            fill(x, 0, let(1), 1);
            fill(x, 0, let(2), 1);
        }
        told(x, 0, 1, 6, 2);
        told(of(gives(0)), 0, 1, 6, 0);
        told(of(let(0)), 0, 1, 6, 0);
        told(of(hold(0)), 0, 0, 6, 0);
        told(of(hold(0), hold(0), let(0), let(0), hold(0)), 0, 1, 6, 2);
    }

    private static void heldTogether() {
        StepMarks x = of(hold(0), hold(1), call(0, 1), hold(2), call(0, 1));
        more(x, hold(0), hold(2));
        told(x, 0, 200, 6, 5);
        told(x, 0, 2, 6, 4);
        told(of(hold(0), hold(1), hold(2), call(0, 0)), 0, 200, 6, 36);
        StepMarks thrown = of(call(0, 1), hold(0));
        handler(thrown, 0, 0, 1, 1, ALL);
        more(thrown, hold(1), hold(1), count(0));
        told(thrown, 0, 200, 6, 2);
    }

    private static void begun() {
        told(of(), 0, 1, 7, 1);
        told(of(gives(0)), 0, 1, 7, 1);
        told(of(load(0, 1)), 0, 1, 7, 2);
        told(of(load(0, 1)), 0, 0, 7, 0);
        told(of(jump(40), load(0, 1)), 0, 1, 7, 2);
        told(of(call(0, 5)), 0, 1, 7, 1);
        told(of(throwOwn(0), gives(0)), 0, 1, 7, 1);
        told(of(load(0, 1), make(1, INTS)), 0, 1, 7, 1);
        told(of(load(0, 1), make(1, INTS)), 0, 2, 7, 3);
        told(of(load(0, -1), make(0, INTS)), 0, 2, 7, 2);
        StepMarks x = of(call(0, 1));
        more(x);
        told(x, 0, 2, 7, 3);
    }

    private static void latestAlone() {
        StepMarks x = of(hold(0), hold(1), make(0, BYTES), let(2), call(0, 1), throwOwn(0));
        handler(x, 0, 3, 4, 4, ALL);
        more(x, gives(0));
        ends(x, 4, 200, THREW, 0, 1 + 5 + 1 + 1, OWN, 4, 2, 1, 1, 2, 7);
        endsOf(x, 1, 4, 200, RETURNED, 4, 1, 0, 0, 1, 0, 0, 0, 1);
        ends(x, 4, 200, THREW, 0, 1 + 5 + 1 + 1, OWN, 4, 2, 1, 1, 2, 7);
        ends(x, 4, 0, STOPPED, 0, 0, 0, 0, 0, 0, 0, 0, 0);
    }

    private static void refused() {
        StepMarks x = of(hold(0), hold(1), make(0, BYTES), let(2), call(0, 1), throwOwn(0));
        handler(x, 0, 3, 4, 4, ALL);
        more(x, gives(0));
        moreLarge(x);
        ends(x, 4, 200, THREW, 0, 1 + 5 + 1 + 1, OWN, 4, 2, 1, 1, 2, 7);
        due("method", go(x, 3, 1, 10), BAD);
        due("budget", go(x, 0, 1, 201), BAD);
        due("LARGE", go(x, 2, 1, 10), LARGE);
        latest(x, "as before", 0, 1 + 5 + 1 + 1, OWN, 4, 2, 1, 1, 2, 7);
    }

    private static void beforeAny() {
        StepMarks x = of(hold(0), make(0, BYTES), throwOwn(0));
        handler(x, 0, 0, 3, 3, ALL);
        latest(x, "none", 0, 0, 0, 0, 0, 0, 0, 0, 0);
        due("a refused one", x.run(0, 1, 201), BAD);
        latest(x, "none", 0, 0, 0, 0, 0, 0, 0, 0, 0);
    }

    private static void wrong() {
        StepMarks x = of(gives(0));
        for (int n = 0; n < 2; n++) {
            for (int what : new int[] {-1, 8, 9, Integer.MIN_VALUE, Integer.MAX_VALUE}) {
                due("told(" + what + ")", x.told(what), BAD);
            }
            due("told(0)", x.told(0), n);
            due("told(7)", x.told(7), n);
            x.run(0, 5, 10);
        }
    }
}
