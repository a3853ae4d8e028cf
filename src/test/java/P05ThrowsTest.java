/** Promise 5: THROWS, which HANDLERS take them, AGAIN. */
public final class P05ThrowsTest extends Check {
    public static void main(String[] args) {
        promise(5);
        all();
        end();
    }

    static void all() {
        holds("15 THROW: OWN, with the number r (its lowest 32 bits)", P05ThrowsTest::lowestBits);
        holds("THROW: the number of each REGISTER", P05ThrowsTest::eachRegister);
        holds("a THROW goes on at PLACE at", P05ThrowsTest::goesOnAt);
        holds("without one the FRAME ends, and it is a THROW of the run", P05ThrowsTest::ofTheRun);
        holds("without one the FRAME ends, and it is a THROW of the CALL there", P05ThrowsTest::ofTheCall);
        holds("a THROW of the CALL there: at the PLACE of the CALL, not behind it", P05ThrowsTest::placeOfTheCall);
        holds("a THROW of the CALL: through as many FRAMES as there are", P05ThrowsTest::throughAll);
        holds("a HANDLER of a METHOD takes no THROW of another METHOD's FRAME below", P05ThrowsTest::notBelow);
        holds("a THROW where a HANDLER led to is one as any other", P05ThrowsTest::inItsHandler);
        holds("16 AGAIN: STATE, if there is none", P05ThrowsTest::againOfNone);
        holds("AGAIN: the THROW that the FRAME caught latest, with its number", P05ThrowsTest::againLatest);
        holds("AGAIN: each of the eight", P05ThrowsTest::againOfEach);
        holds("AGAIN: what the FRAME caught of a CALL", P05ThrowsTest::againOfCall);
        holds("AGAIN: what another FRAME caught is not this one's", P05ThrowsTest::againOfAnother);
        holds("AGAIN is a THROW at its PLACE: a HANDLER there takes it", P05ThrowsTest::againTaken);
        holds("STEPS: 1 when a HANDLER takes a THROW", P05ThrowsTest::counted);
    }

    private static void lowestBits() {
        StepMarks x = of(throwOwn(0));
        throwsKind(x, 0, OWN, 0);
        throwsKind(x, 7, OWN, 7);
        throwsKind(x, -1, OWN, -1);
        throwsKind(x, 1L << 31, OWN, Integer.MIN_VALUE);
        throwsKind(x, (1L << 31) - 1, OWN, Integer.MAX_VALUE);
        throwsKind(x, 1L << 32, OWN, 0);
        throwsKind(x, (7L << 32) + 5, OWN, 5);
        throwsKind(x, -(1L << 31) - 1, OWN, Integer.MAX_VALUE);
        throwsKind(x, MOST, OWN, -1);
        throwsKind(x, LEAST, OWN, 0);
    }

    private static void eachRegister() {
        for (int r = 0; r < 4; r++) {
            throwsKind(of(load(r, 40 + r), throwOwn(r)), 5, OWN, 40 + r);
        }
    }

    private static void goesOnAt() {
        for (int at = 0; at <= 3; at++) {
            StepMarks x = of(jumpAbove(0, 4), add(1, 2), add(1, 2), gives(1), load(2, 1), load(0, 0), throwOwn(0));
            handler(x, 0, 6, 7, at, ALL);
            ends(x, 1, 200, RETURNED, at < 2 ? 2 : at == 2 ? 1 : 0, 2, 0, 0, 1, 1, 0, 0, 4 + 4 - at);
        }
    }

    private static void ofTheRun() {
        StepMarks x = of(count(0), gives(0));
        ends(x, 9, 200, THREW, 0, 1, NULL, 0, 1, 0, 0, 0, 1);
        handler(x, 0, 1, 2, 1, ALL);
        handler(x, 0, 0, 1, 1, ALL & ~(1 << NULL));
        ends(x, 9, 200, THREW, 0, 1, NULL, 0, 1, 0, 0, 0, 1);
    }

    private static void ofTheCall() {
        StepMarks x = of(call(0, 1), gives(0));
        handler(x, 0, 0, 1, 1, 1 << SIZE);
        more(x, load(1, -1), make(1, BYTES), load(0, 3), gives(0));
        ends(x, 77, 200, RETURNED, 77, 4, 0, 0, 2, 1, 0, 0, 4);
        StepMarks y = of(call(0, 1), gives(0));
        more(y, load(1, -1), make(1, BYTES));
        ends(y, 77, 200, THREW, 0, 3, SIZE, 0, 2, 0, 0, 0, 3);
    }

    private static void placeOfTheCall() {
        for (int place = 0; place <= 2; place++) {
            StepMarks x = of(load(1, 5), call(0, 1), load(1, 6), gives(1));
            handler(x, 0, place, place + 1, 3, ALL);
            more(x, add(1, 2), add(1, 2), throwOwn(0));
            ends(x, 8, 200, place == 1 ? RETURNED : THREW, place == 1 ? 5 : 0);
        }
    }

    private static void throughAll() {
        StepMarks x = of(load(1, 1), less(0, 1), jumpAbove(0, 4), throwOwn(1), call(0, 0), gives(0));
        ends(x, 12, 200, THREW, 0, 12, OWN, 1, 12, 0, 0, 0, 12 * 4);
        more(x, call(0, 0), load(0, 9), gives(0));
        handler(x, 1, 0, 1, 2, ALL);
        endsOf(x, 1, 11, 200, RETURNED, 11, 1 + 11 + 1, 0, 0, 12, 1, 0, 0, 1 + 11 * 4 + 1);
    }

    private static void notBelow() {
        StepMarks x = of(count(0), gives(0));
        more(x, load(0, 4));
        handler(x, 1, 0, 40, 1, ALL);
        more(x, call(0, 0));
        throwsKind(x, 3, NULL, 0);
        endsOf(x, 2, 3, 200, THREW, 0, 2, NULL, 0, 2, 0, 0, 0, 2);
    }

    private static void inItsHandler() {
        StepMarks x = of(count(1), jumpAbove(0, 3), throwOwn(0), less(0, 0), gives(0));
        handler(x, 0, 0, 1, 2, ALL);
        handler(x, 0, 2, 3, 4, 1 << OWN);
        ends(x, 6, 200, RETURNED, 6, 3, 0, 0, 1, 2, 0, 0, 3);
    }

    private static void againOfNone() {
        for (long arg : new long[] {0, 5, LEAST}) {
            ends(of(again()), arg, 200, THREW, 0, 1, STATE, 0, 1, 0, 0, 0, 1);
        }
    }

    private static void againLatest() {
        StepMarks x = of(count(0), load(1, 12), throwOwn(1), again());
        handler(x, 0, 0, 1, 1, ALL);
        handler(x, 0, 2, 3, 3, ALL);
        ends(x, 0, 200, THREW, 0, 3, OWN, 12, 1, 2, 0, 0, 4);
        StepMarks y = of(load(1, 12), throwOwn(1), count(0), again());
        handler(y, 0, 2, 3, 3, ALL);
        handler(y, 0, 1, 2, 2, ALL);
        ends(y, 0, 200, THREW, 0, 3, NULL, 0, 1, 2, 0, 0, 4);
        StepMarks z = of(throwOwn(0), load(0, 3), again());
        handler(z, 0, 0, 1, 1, ALL);
        ends(z, (9L << 32) + 8, 200, THREW, 0, 2, OWN, 8, 1, 1, 0, 0, 3);
    }

    private static void againOfEach() {
        long[][] last = {count(0), get(0, 1), make(2, INTS), put(2, 3), isOf(THINGS), over(1, 3), let(0), throwOwn(2)};
        for (int kind = 1; kind <= 8; kind++) {
            long[] ahead = kind == NULL ? load(3, 0) : make(1, kind == STORE ? RICH : INTS);
            StepMarks x = of(load(1, 1), load(2, -2), ahead, last[kind - 1], again());
            handler(x, 0, 3, 4, 4, 1 << kind);
            throwsKind(x, 0, kind, kind == OWN ? -2 : 0);
            due("HANDLERS took", x.told(4), 1);
        }
    }

    private static void againOfCall() {
        StepMarks x = of(call(0, 1), again());
        handler(x, 0, 0, 1, 1, ALL);
        more(x, throwOwn(0));
        ends(x, 21, 200, THREW, 0, 3, OWN, 21, 2, 1, 0, 0, 3);
    }

    private static void againOfAnother() {
        StepMarks caller = of(count(0), call(0, 1));
        handler(caller, 0, 0, 1, 1, ALL);
        more(caller, again());
        ends(caller, 0, 200, THREW, 0, 3, STATE, 0, 2, 1, 0, 0, 3);
        StepMarks called = of(call(0, 1), again());
        more(called, throwOwn(0));
        handler(called, 1, 0, 1, 1, ALL);
        ends(called, 5, 200, THREW, 0, 3, STATE, 0, 2, 1, 0, 0, 4);
    }

    private static void againTaken() {
        StepMarks x = of(throwOwn(0), again(), gives(0));
        handler(x, 0, 0, 1, 1, ALL);
        handler(x, 0, 1, 2, 2, 1 << OWN);
        ends(x, 5, 200, RETURNED, 5, 3, 0, 0, 1, 2, 0, 0, 3);
        // STATE was caught last, so that it comes again
        StepMarks y = of(again(), again());
        handler(y, 0, 0, 1, 1, ALL);
        ends(y, 5, 200, THREW, 0, 2, STATE, 0, 1, 1, 0, 0, 2);
    }

    private static void counted() {
        for (int n = 1; n <= 4; n++) {
            int from = 4 - n;
            StepMarks x = of(jump(from + 1), throwOwn(0), throwOwn(0), throwOwn(0), throwOwn(0), gives(0));
            for (int h = from + 1; h < 5; h++) {
                handler(x, 0, h, h + 1, h + 1, ALL);
            }
            ends(x, 5, 200, RETURNED, 5, 1 + n, 0, 0, 1, n, 0, 0, 1 + n + 1);
            needs(x, 5, 1 + n);
        }
    }
}
