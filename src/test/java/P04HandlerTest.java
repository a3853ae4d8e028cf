/** Promise 4: handler(), and which of them takes a THROW. */
public final class P04HandlerTest extends Check {
    public static void main(String[] args) {
        promise(4);
        holds("A HANDLER more: its number", P04HandlerTest::numbers);
        holds("HANDLERS, 4 at most: FULL", P04HandlerTest::full);
        holds("FULL; then nothing changes", P04HandlerTest::fullChangesNothing);
        holds("each METHOD has 4 of its own", P04HandlerTest::eachMethod);
        holds("BAD: METHOD", P04HandlerTest::wrongMethod);
        holds("BAD: PLACES (0 .. 40): from", () -> wrongPlace(1, 0, 0));
        holds("BAD: PLACES (0 .. 40): to", () -> wrongPlace(0, 1, 0));
        holds("BAD: PLACES (0 .. 40): at", () -> wrongPlace(0, 0, 1));
        holds("BAD: MASK (bits 1 to 8 alone)", P04HandlerTest::wrongMask);
        holds("bits 1 to 8 alone: a MASK of none of them is no other bit, and takes no THROW", P04HandlerTest::emptyMask);
        holds("BAD; then nothing changes", P04HandlerTest::badChangesNothing);
        holds("the first of these that fits: BAD, FULL", P04HandlerTest::badBeforeFull);
        holds("of a METHOD that is TOO LARGE: its number all the same, as neither BAD nor FULL fits", P04HandlerTest::ofLarge);
        holds("a THROW at a PLACE from .. to - 1 (to not with)", P04HandlerTest::range);
        holds("from .. to - 1 is empty where to is not above from", P04HandlerTest::emptyRange);
        holds("PLACES 0 .. 40: a range to 40 has the last PLACE, 39", P04HandlerTest::wholeRange);
        holds("the first HANDLER in order", P04HandlerTest::order);
        holds("in whose MASK its bit (2 to its number) is", P04HandlerTest::masks);
        end();
    }

    private static void numbers() {
        StepMarks x = of();
        for (int n = 0; n < 4; n++) {
            due("a handler", x.handler(0, n, n + 1, n, 2 << n), n);
            due("HANDLERS", x.about(0, 1), n + 1);
        }
    }

    private static void full() {
        StepMarks x = of();
        for (int n = 0; n < 4; n++) {
            due("a handler", x.handler(0, 0, 40, 40, ALL), n);
        }
        due("a 5th", x.handler(0, 0, 40, 40, ALL), FULL);
        due("once more", x.handler(0, 0, 0, 0, 2), FULL);
        due("HANDLERS", x.about(0, 1), 4);
    }

    private static void fullChangesNothing() {
        StepMarks x = of(throwOwn(0), load(1, 5), gives(1));
        for (int n = 0; n < 4; n++) {
            handler(x, 0, 1, 2, 0, ALL);
        }
        go(x, 0, 3, 100);
        String before = state(x);
        due("a 5th", x.handler(0, 0, 1, 1, ALL), FULL);
        same("state", state(x), before);
        throwsKind(x, 4, OWN, 4);
    }

    private static void eachMethod() {
        StepMarks x = of();
        for (int n = 0; n < 4; n++) {
            handler(x, 0, 0, 1, 1, ALL);
        }
        more(x, throwOwn(0));
        endsOf(x, 1, 3, 100, THREW, 0);
        due("another METHOD's first", x.handler(1, 0, 1, 1, ALL), 0);
        endsOf(x, 1, 3, 100, RETURNED, 0);
        due("HANDLERS", x.about(0, 1), 4);
        due("HANDLERS", x.about(1, 1), 1);
    }

    private static void wrongMethod() {
        StepMarks x = of();
        more(x);
        for (int m : new int[] {-1, 2, 5, 6, Integer.MIN_VALUE, Integer.MAX_VALUE}) {
            due("method " + m, x.handler(m, 0, 1, 0, 2), BAD);
        }
        due("METHOD 1 is one", x.handler(1, 0, 1, 0, 2), 0);
        due("METHOD 0 is one", x.handler(0, 0, 1, 0, 2), 0);
    }

    /** One of the three PLACES is the one that is tried. */
    private static void wrongPlace(int from, int to, int at) {
        StepMarks x = of();
        for (int place : new int[] {-1, 41, Integer.MIN_VALUE, Integer.MAX_VALUE}) {
            due("place " + place, x.handler(0, from * place, to * place, at * place, 2), BAD);
        }
        due("nothing changed", x.about(0, 1), 0);
        due("place 0", x.handler(0, 0, 0, 0, 2), 0);
        due("place 40", x.handler(0, from * 40, to * 40, at * 40, 2), 1);
    }

    private static void wrongMask() {
        StepMarks x = of();
        for (int bit = 0; bit < 32; bit++) {
            if (bit < 1 || bit > 8) {
                due("the bit " + bit, x.handler(0, 0, 1, 0, 1 << bit), BAD);
                due("the bit " + bit + " with all others", x.handler(0, 0, 1, 0, ALL | 1 << bit), BAD);
            }
        }
        due("all bits", x.handler(0, 0, 1, 0, -1), BAD);
        due("bit 1", x.handler(0, 0, 1, 0, 2), 0);
        due("bit 8", x.handler(0, 0, 1, 0, 256), 1);
        due("bits 1 to 8", x.handler(0, 0, 1, 0, ALL), 2);
    }

    private static void emptyMask() {
        StepMarks x = of(throwOwn(0), count(0));
        due("a MASK of 0", x.handler(0, 0, 40, 40, 0), 0);
        throwsKind(x, 5, OWN, 5);
        due("it is counted with the others", x.about(0, 1), 1);
        due("and has its MARK", x.about(0, 2), 2);
    }

    private static void badChangesNothing() {
        StepMarks x = of(throwOwn(0), gives(0));
        handler(x, 0, 1, 2, 1, ALL);
        go(x, 0, 3, 100);
        String before = state(x);
        due("method", x.handler(1, 0, 1, 1, ALL), BAD);
        due("from", x.handler(0, -1, 1, 1, ALL), BAD);
        due("to", x.handler(0, 0, 41, 1, ALL), BAD);
        due("at", x.handler(0, 0, 1, 41, ALL), BAD);
        due("mask", x.handler(0, 0, 1, 1, ALL | 1), BAD);
        same("state", state(x), before);
        throwsKind(x, 4, OWN, 4);
        due("the next number", x.handler(0, 0, 1, 1, ALL), 1);
    }

    private static void badBeforeFull() {
        StepMarks x = of();
        for (int n = 0; n < 4; n++) {
            handler(x, 0, 0, 1, 0, 2);
        }
        due("method", x.handler(1, 0, 1, 0, 2), BAD);
        due("from", x.handler(0, 41, 1, 0, 2), BAD);
        due("to", x.handler(0, 0, -1, 0, 2), BAD);
        due("at", x.handler(0, 0, 1, 41, 2), BAD);
        due("mask", x.handler(0, 0, 1, 0, 512), BAD);
        due("none of these", x.handler(0, 0, 1, 0, 2), FULL);
    }

    private static void ofLarge() {
        StepMarks x = of();
        fill(x, 0, jump(0), 40);
        due("TOO LARGE", x.entries(0), LARGE);
        for (int n = 0; n < 4; n++) {
            due("a handler", x.handler(0, 0, 1, 0, 2), n);
        }
        due("HANDLERS", x.about(0, 1), 4);
        due("a 5th", x.handler(0, 0, 1, 0, 2), FULL);
    }

    private static void range() {
        for (int from = 0; from <= 4; from++) {
            for (int to = 0; to <= 4; to++) {
                StepMarks x = of(load(1, 5), load(2, 6), throwOwn(1), load(0, 9));
                handler(x, 0, from, to, 40, ALL);
                if (from <= 2 && 2 < to) {
                    ends(x, 0, 200, RETURNED, 0, 2, 0, 0, 1, 1, 0, 0, 4);
                } else {
                    ends(x, 0, 200, THREW, 0, 1, OWN, 5, 1, 0, 0, 0, 3);
                }
            }
        }
    }

    private static void emptyRange() {
        for (int place = 0; place <= 1; place++) {
            StepMarks x = of(throwOwn(0), gives(0));
            due("from and to alike", x.handler(0, place, place, 1, ALL), 0);
            due("from above to", x.handler(0, place + 1, place, 1, ALL), 1);
            due("from above to", x.handler(0, 40, 0, 1, ALL), 2);
            throwsKind(x, 4, OWN, 4);
        }
    }

    private static void wholeRange() {
        StepMarks x = of();
        fill(x, 0, load(1, 3), 39);
        fill(x, 0, throwOwn(1), 1);
        handler(x, 0, 0, 39, 40, ALL);
        throwsKind(x, 4, OWN, 3);
        handler(x, 0, 39, 40, 40, ALL);
        ends(x, 4, 200, RETURNED, 0, 2, 0, 0, 1, 1, 0, 0, 41);
    }

    private static void order() {
        StepMarks x = of(throwOwn(0), load(1, 11), gives(1), load(1, 22), gives(1));
        handler(x, 0, 0, 1, 1, ALL & ~256);
        handler(x, 0, 1, 2, 1, ALL);
        handler(x, 0, 0, 1, 3, 256);
        handler(x, 0, 0, 1, 1, 256);
        returns(x, 0, 22);
        StepMarks y = of(throwOwn(0), load(1, 11), gives(1), load(1, 22), gives(1));
        handler(y, 0, 0, 1, 1, ALL);
        handler(y, 0, 0, 1, 3, 256);
        returns(y, 0, 11);
    }

    /** A METHOD of 4 PLACES that ends in this THROW, at PLACE 3. */
    private static StepMarks thatThrows(int kind) {
        long[] last = switch (kind) {
            case NULL -> count(0);
            case INDEX -> get(0, 1);
            case SIZE -> make(2, INTS);
            case STORE -> put(2, 3);
            case CAST -> isOf(THINGS);
            case ZERO -> over(1, 3);
            case STATE -> again();
            default -> throwOwn(2);
        };
        long[] ahead = kind == NULL ? load(3, 0) : make(1, kind == STORE ? RICH : INTS);
        return of(load(1, 1), load(2, -2), ahead, last);
    }

    private static void masks() {
        for (int kind = 1; kind <= 8; kind++) {
            throwsKind(thatThrows(kind), 0, kind, kind == OWN ? -2 : 0);
            for (int bit = 1; bit <= 8; bit++) {
                StepMarks alone = thatThrows(kind);
                handler(alone, 0, 0, 4, 4, 1 << bit);
                due("the THROW " + kind + " by the bit " + bit, go(alone, 0, 0, 200), kind == bit ? RETURNED : THREW);
                StepMarks others = thatThrows(kind);
                handler(others, 0, 0, 4, 4, ALL & ~(1 << bit));
                due("the THROW " + kind + " by all but the bit " + bit, go(others, 0, 0, 200), kind == bit ? THREW : RETURNED);
            }
        }
    }
}
