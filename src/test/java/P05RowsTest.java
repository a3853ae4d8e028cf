/** Promise 5: ROWS of all LANES, what their cells tell back, and the THROWS of their ACTS. */
public final class P05RowsTest {
    private static final Check c = new Check();

    public static void main(String[] args) {
        cells();
        things();
        faults();
        casts();
        remade();
        c.end();
    }

    private static long[] i(int act, int r, int s, long v) {
        return Check.i(act, r, s, v);
    }

    /** Lays what it gets into cell 1 of 3 and tells it back. */
    private static StepMarks lays(int lane) {
        return Check.of(i(Check.LOAD, 1, 0, 3), i(Check.MAKE, 1, 0, lane), i(Check.LOAD, 2, 0, 1),
            i(Check.PUT, 0, 2, 0), i(Check.GET, 3, 2, 0), i(Check.RETURN, 3, 0, 0));
    }

    private static void cells() {
        long[] numbers = {0, 1, -1, 127, 128, -129, 32767, 32768, 1L << 31, -(1L << 31) - 1, (1L << 53) + 1,
            -(1L << 53) - 1, Long.MAX_VALUE, Long.MIN_VALUE, Long.MAX_VALUE - 511, 1234567890123456789L};
        for (long n : numbers) {
            c.gives(lays(Check.BYTES), n, (byte) n);
            c.gives(lays(Check.SHORTS), n, (short) n);
            c.gives(lays(Check.INTS), n, (int) n);
            c.gives(lays(Check.LONGS), n, n);
            c.gives(lays(Check.DOUBLES), n, (long) (double) n);
            c.gives(lays(Check.THINGS), n, Math.floorMod(n, 8L));
            if (n % 2 == 0) {
                c.throwsKind(lays(Check.RICH), n, Check.STORE, 0);
            } else {
                c.gives(lays(Check.RICH), n, Math.floorMod(n, 8L));
            }
        }
        c.gives(lays(Check.DOUBLES), (1L << 53) + 1, 1L << 53);
    }

    /** New cells: 0, or no THING; the others stay as they were. */
    private static void things() {
        for (int lane = 0; lane <= 6; lane++) {
            StepMarks x = Check.of(i(Check.LOAD, 1, 0, 3), i(Check.MAKE, 1, 0, lane), i(Check.LOAD, 2, 0, 1), i(Check.LOAD, 3, 0, 5),
                i(Check.PUT, 3, 2, 0), i(Check.GET, 0, 0, 0), i(Check.RETURN, 0, 0, 0));
            long blank = lane >= 5 ? -1 : 0;
            c.gives(x, 0, blank);
            c.gives(x, 1, 5);
            c.gives(x, 2, blank);
            c.throwsKind(x, 3, Check.INDEX, 0);
        }
        // a THING that may not be laid leaves the cell
        StepMarks x = Check.of(i(Check.LOAD, 1, 0, 1), i(Check.MAKE, 1, 0, Check.RICH), i(Check.PUT, 1, 2, 0), i(Check.PUT, 0, 2, 0),
            i(Check.GET, 0, 2, 0), i(Check.RETURN, 0, 0, 0));
        x.handler(0, 3, 4, 4, 1 << Check.STORE);
        c.gives(x, 6, 1);
        c.gives(x, 3, 3);
    }

    private static void faults() {
        StepMarks get = Check.of(i(Check.GET, 0, 0, 0));
        StepMarks put = Check.of(i(Check.PUT, 0, 0, 0));
        StepMarks count = Check.of(i(Check.COUNT, 0, 0, 0));
        for (long n : new long[] {0, -1, 5}) {
            c.throwsKind(get, n, Check.NULL, 0);
            c.throwsKind(put, n, Check.NULL, 0);
            c.throwsKind(count, n, Check.NULL, 0);
        }
        for (int act : new int[] {Check.GET, Check.PUT}) {
            StepMarks x = Check.of(i(Check.LOAD, 1, 0, 2), i(Check.MAKE, 1, 0, Check.RICH), i(act, 1, 0, 0));
            for (long wrong : new long[] {-1, 2, 1L << 32, (1L << 32) + 1, Long.MIN_VALUE, Long.MAX_VALUE}) {
                // INDEX comes before STORE: the THING 2 may not be laid either
                c.throwsKind(x, wrong, Check.INDEX, 0);
            }
        }
        StepMarks store = Check.of(i(Check.LOAD, 1, 0, 2), i(Check.MAKE, 1, 0, Check.RICH), i(Check.PUT, 1, 0, 0));
        c.throwsKind(store, 1, Check.STORE, 0);
        StepMarks none = Check.of(i(Check.MAKE, 1, 0, Check.INTS), i(Check.GET, 0, 1, 0));
        c.throwsKind(none, 0, Check.INDEX, 0);
    }

    private static void casts() {
        for (int lane = 0; lane <= 6; lane++) {
            for (int asked = 0; asked <= 6; asked++) {
                StepMarks x = Check.of(i(Check.MAKE, 1, 0, lane), i(Check.IS_OF, 0, 0, asked), i(Check.RETURN, 0, 0, 0));
                if (lane == asked || lane == Check.RICH && asked == Check.THINGS) {
                    c.gives(x, 4, 4);
                } else {
                    c.throwsKind(x, 4, Check.CAST, 0);
                }
            }
            c.gives(Check.of(i(Check.IS_OF, 0, 0, lane), i(Check.RETURN, 0, 0, 0)), 4, 4);
        }
    }

    /** A new ROW takes the place of the one before; one that is refused leaves it. */
    private static void remade() {
        StepMarks x = Check.of(i(Check.LOAD, 1, 0, 9), i(Check.MAKE, 1, 0, Check.LONGS), i(Check.PUT, 1, 2, 0), i(Check.MAKE, 0, 0, Check.INTS),
            i(Check.GET, 3, 2, 0), i(Check.COUNT, 1, 0, 0), i(Check.LOAD, 2, 0, 100), i(Check.TIMES, 3, 2, 0), i(Check.ADD, 3, 1, 0),
            i(Check.RETURN, 3, 0, 0));
        x.handler(0, 3, 4, 4, 1 << Check.SIZE);
        c.both(x, 0, -1, 200, Check.RETURNED, 909, 1 + 10 + 1 + 1, 0, 0, 1, 1, 1, 0, 10);
        c.both(x, 0, 4, 200, Check.RETURNED, 4, 1 + 10 + 5, 0, 0, 1, 0, 2, 0, 10);
        c.both(x, 0, 0, 200, Check.THREW, 0, 1 + 10 + 1, 2, 0, 1, 0, 2, 0, 5);
        // the caller's ROW is its own
        StepMarks y = Check.of(i(Check.LOAD, 1, 0, 2), i(Check.MAKE, 1, 0, Check.LONGS), i(Check.PUT, 0, 2, 0), i(Check.CALL, 3, 0, 1),
            i(Check.GET, 0, 2, 0), i(Check.RETURN, 0, 0, 0));
        Check.add(y, i(Check.LOAD, 1, 0, 2), i(Check.MAKE, 1, 0, Check.LONGS), i(Check.PUT, 1, 2, 0));
        c.gives(y, 55, 55);
    }
}
