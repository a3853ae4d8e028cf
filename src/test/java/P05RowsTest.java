/** Promise 5: ROWS of all LANES, what their cells tell back, and the THROWS of their ACTS. */
public final class P05RowsTest extends Check {
    private static final long[] NUMBERS = {0, 1, -1, 2, 6, 7, 8, 9, -8, -9, 127, 128, 255, 256, -128, -129, 32767, 32768, 65536, -32768, -32769,
        1L << 31, (1L << 31) - 1, -(1L << 31), -(1L << 31) - 1, 1L << 32, (1L << 53) - 1, 1L << 53, (1L << 53) + 1, (1L << 53) + 3,
        -(1L << 53) - 1, MOST, LEAST, MOST - 511, MOST - 512, LEAST + 1, 1234567890123456789L};

    public static void main(String[] args) {
        promise(5);
        all();
        end();
    }

    static void all() {
        holds("MAKE: a new one of LANE v with as many cells as r tells", P05RowsTest::asManyCells);
        holds("MAKE: with no cells at all, if r tells 0", P05RowsTest::noCells);
        holds("MAKE (0, or no THING)", P05RowsTest::newCells);
        holds("MAKE (0, or no THING), also where another ROW was before", P05RowsTest::newCellsAnew);
        holds("SIZE, if that is below 0", P05RowsTest::belowZero);
        holds("SIZE: the ROW before stays", P05RowsTest::staysAtSize);
        holds("9 GET: NULL (no ROW)", () -> noRow(get(0, 1)));
        holds("10 PUT: NULL (no ROW)", () -> noRow(put(0, 1)));
        holds("12 COUNT: NULL", () -> noRow(count(0)));
        holds("NULL comes ahead of INDEX", P05RowsTest::nullBeforeIndex);
        holds("9 GET: INDEX (all of s is looked at)", () -> index(9));
        holds("10 PUT: INDEX (all of s is looked at)", () -> index(10));
        holds("INDEX: of a ROW without cells there is none", P05RowsTest::indexOfEmpty);
        holds("INDEX comes ahead of STORE", P05RowsTest::indexBeforeStore);
        holds("GET: r becomes cell s of the ROW; PUT: cell s of the ROW becomes r", P05RowsTest::eachCell);
        holds("GET that throws: r stays", P05RowsTest::staysAtIndex);
        holds("COUNT: r becomes how many cells the ROW has", P05RowsTest::counts);
        holds("11 ROW is of LANE v: CAST", P05RowsTest::casts);
        holds("CAST (none is of each)", P05RowsTest::noneIsOfEach);
        holds("CAST (the LANE 6 is 5, too), 5 is not 6", P05RowsTest::richIsThing);
        holds("Cells of 0, bytes: r is cast", () -> cells(BYTES));
        holds("Cells of 1, shorts: r is cast", () -> cells(SHORTS));
        holds("Cells of 2, ints: r is cast", () -> cells(INTS));
        holds("Cells of 3, longs: told back as a long", () -> cells(LONGS));
        holds("Cells of 4, doubles: as the machine casts", P05RowsTest::doubles);
        holds("Cells of 5: the THING r modulo 8 (0 .. 7, also of r below 0: the lowest three bits)", () -> cells(THINGS));
        holds("Cells of 6: likewise, of odd ones", () -> cells(RICH));
        holds("of 6 only odd ones may be laid (STORE)", P05RowsTest::store);
        holds("STORE: the cell stays as it was", P05RowsTest::staysAtStore);
        holds("GET tells its number, -1 of none", P05RowsTest::noThing);
        holds("each FRAME has a ROW of its own", P05RowsTest::ofItsOwn);
    }

    /** Makes a ROW of 3 cells, lays what it gets into cell 1 and tells it back. */
    private static StepMarks lays(int lane) {
        return of(load(1, 3), make(1, lane), load(2, 1), put(0, 2), get(3, 2), gives(3));
    }

    private static long toldBack(int lane, long n) {
        return switch (lane) {
            case BYTES -> (byte) n;
            case SHORTS -> (short) n;
            case INTS -> (int) n;
            case LONGS -> n;
            case DOUBLES -> (long) (double) n;
            default -> Math.floorMod(n, 8L);
        };
    }

    private static void asManyCells() {
        for (int lane = 0; lane <= 6; lane++) {
            for (int n : new int[] {1, 2, 100, 198}) {
                StepMarks x = of(make(0, lane), isOf(lane), count(0), gives(0));
                ends(x, n, 200, RETURNED, n, 1 + 1 + n, 0, 0, 1, 0, 1, 0, 4);
            }
        }
        // the last cell of the largest ROW can be laid
        StepMarks x = of(load(1, 1), make(0, LONGS), less(0, 1), put(0, 0), get(3, 0), gives(3));
        returns(x, 198, 197);
    }

    private static void noCells() {
        for (int lane = 0; lane <= 6; lane++) {
            StepMarks x = of(make(0, lane), count(1), gives(1));
            ends(x, 0, 2, RETURNED, 0, 2, 0, 0, 1, 0, 1, 0, 3);
            // it is a ROW all the same
            StepMarks y = of(make(1, lane), isOf(lane == INTS ? LONGS : INTS));
            throwsKind(y, 0, CAST, 0);
        }
    }

    private static void newCells() {
        for (int lane = 0; lane <= 6; lane++) {
            StepMarks x = of(load(1, 3), make(1, lane), load(2, 1), load(3, 5), put(3, 2), get(0, 0), gives(0));
            long blank = lane >= THINGS ? -1 : 0;
            returns(x, 0, blank);
            returns(x, 1, 5);
            returns(x, 2, blank);
        }
    }

    private static void newCellsAnew() {
        for (int before = 0; before <= 6; before++) {
            for (int lane = 0; lane <= 6; lane++) {
                StepMarks x = of(load(1, 2), make(1, before), load(3, 7), put(3, 0), make(1, lane), get(3, 0), gives(3));
                returns(x, 0, lane >= THINGS ? -1 : 0);
                returns(x, 1, lane >= THINGS ? -1 : 0);
            }
        }
    }

    private static void belowZero() {
        for (int lane = 0; lane <= 6; lane++) {
            for (long n : new long[] {-1, -2, -(1L << 32), LEAST, LEAST + 1}) {
                ends(of(make(0, lane)), n, 200, THREW, 0, 2, SIZE, 0, 1, 0, 0, 0, 1);
            }
        }
    }

    private static void staysAtSize() {
        StepMarks x = of(load(1, 9), make(1, LONGS), put(1, 2), make(0, INTS), isOf(LONGS), get(3, 2), count(1), add(3, 1), gives(3));
        handler(x, 0, 3, 4, 4, 1 << SIZE);
        ends(x, -1, 200, RETURNED, 18, 1 + 10 + 1 + 1, 0, 0, 1, 1, 1, 0, 9);
        StepMarks none = of(make(0, INTS), count(1));
        handler(none, 0, 0, 1, 1, 1 << SIZE);
        throwsKind(none, -1, NULL, 0);
    }

    private static void noRow(long[] look) {
        for (long n : new long[] {0, -1, 5}) {
            StepMarks x = of(look);
            throwsKind(x, n, NULL, 0);
        }
        StepMarks x = of(look, gives(0));
        handler(x, 0, 0, 1, 1, 1 << NULL);
        returns(x, 44, 44);
    }

    private static void nullBeforeIndex() {
        for (long n : new long[] {-1, 1, LEAST, MOST}) {
            throwsKind(of(get(1, 0)), n, NULL, 0);
            throwsKind(of(put(1, 0)), n, NULL, 0);
        }
    }

    private static void index(int act) {
        for (int lane = 0; lane <= 6; lane++) {
            StepMarks x = of(load(1, 3), make(1, lane), i(act, 1, 0, 0), gives(1));
            for (long wrong : new long[] {-1, 3, 4, -3, 1L << 32, (1L << 32) + 1, -(1L << 32), (1L << 62) + 2, LEAST, MOST}) {
                throwsKind(x, wrong, INDEX, 0);
            }
            for (long right = 0; right < 3; right++) {
                due("cell " + right, go(x, 0, right, 200), RETURNED);
            }
        }
    }

    private static void indexOfEmpty() {
        for (int lane = 0; lane <= 6; lane++) {
            for (long n : new long[] {0, -1, 1}) {
                throwsKind(of(make(1, lane), get(2, 0)), n, INDEX, 0);
                throwsKind(of(make(1, lane), put(2, 0)), n, INDEX, 0);
            }
        }
    }

    private static void indexBeforeStore() {
        StepMarks x = of(load(1, 2), make(1, RICH), put(1, 0));
        for (long wrong : new long[] {-1, 2, 1L << 32}) {
            throwsKind(x, wrong, INDEX, 0);
        }
        throwsKind(x, 0, STORE, 0);
        throwsKind(x, 1, STORE, 0);
    }

    /** Lays 3, 5, 7 into the three cells, and tells the one that is asked for. */
    private static void eachCell() {
        for (int lane = 0; lane <= 6; lane++) {
            StepMarks x = of(load(1, 3), make(1, lane), put(1, 2), load(1, 5), load(2, 1), put(1, 2), load(1, 7), add(2, 2), put(1, 2),
                get(3, 0), gives(3));
            returns(x, 0, 3);
            returns(x, 1, 5);
            returns(x, 2, 7);
        }
    }

    private static void staysAtIndex() {
        StepMarks x = of(load(1, 2), make(1, LONGS), get(0, 1), gives(0));
        handler(x, 0, 2, 3, 3, 1 << INDEX);
        returns(x, 44, 44);
    }

    private static void counts() {
        for (int lane = 0; lane <= 6; lane++) {
            for (int r = 0; r < 4; r++) {
                StepMarks x = of(make(0, lane), load(r, 77), count(r), gives(r));
                returns(x, 5, 5);
                returns(x, 0, 0);
            }
        }
    }

    private static void casts() {
        for (int lane = 0; lane <= 6; lane++) {
            for (int asked = 0; asked <= 6; asked++) {
                StepMarks x = of(make(1, lane), isOf(asked), gives(0));
                if (lane == asked || lane == RICH && asked == THINGS) {
                    returns(x, 4, 4);
                } else {
                    throwsKind(x, 4, CAST, 0);
                }
            }
        }
    }

    private static void noneIsOfEach() {
        for (int asked = 0; asked <= 6; asked++) {
            returns(of(isOf(asked), gives(0)), 4, 4);
        }
    }

    private static void richIsThing() {
        returns(of(make(1, RICH), isOf(THINGS), gives(0)), 4, 4);
        returns(of(make(1, RICH), isOf(RICH), gives(0)), 4, 4);
        throwsKind(of(make(1, THINGS), isOf(RICH), gives(0)), 4, CAST, 0);
        // asked for as 5, it is of 6 still
        throwsKind(of(load(1, 1), make(1, RICH), isOf(THINGS), put(0, 2)), 4, STORE, 0);
    }

    private static void cells(int lane) {
        for (long n : NUMBERS) {
            if (lane != RICH || (n & 1) == 1) {
                returns(lays(lane), n, toldBack(lane, n));
            }
        }
    }

    private static void doubles() {
        cells(DOUBLES);
        returns(lays(DOUBLES), (1L << 53) + 1, 1L << 53);
        returns(lays(DOUBLES), (1L << 53) + 3, (1L << 53) + 4);
        returns(lays(DOUBLES), MOST, MOST);
        returns(lays(DOUBLES), MOST - 512, MOST - 1023);
        returns(lays(DOUBLES), LEAST, LEAST);
        returns(lays(DOUBLES), LEAST + 1, LEAST);
    }

    private static void store() {
        for (long n : NUMBERS) {
            if ((n & 1) == 0) {
                throwsKind(lays(RICH), n, STORE, 0);
                returns(lays(THINGS), n, n & 7);
            } else {
                due("an odd one", go(lays(RICH), 0, n, 200), RETURNED);
            }
        }
    }

    private static void staysAtStore() {
        StepMarks x = of(load(1, 1), make(1, RICH), put(1, 2), put(0, 2), get(0, 2), gives(0));
        handler(x, 0, 3, 4, 4, 1 << STORE);
        returns(x, 6, 1);
        returns(x, -3, 5);
        StepMarks none = of(load(1, 1), make(1, RICH), put(0, 2), get(0, 2), gives(0));
        handler(none, 0, 2, 3, 3, 1 << STORE);
        returns(none, 6, -1);
    }

    private static void noThing() {
        for (int lane = THINGS; lane <= RICH; lane++) {
            StepMarks x = of(load(1, 2), make(1, lane), get(3, 0), gives(3));
            returns(x, 0, -1);
            returns(x, 1, -1);
        }
        // the THING 0 is one
        returns(lays(THINGS), 0, 0);
        returns(lays(THINGS), 8, 0);
    }

    private static void ofItsOwn() {
        StepMarks x = of(load(1, 2), make(1, LONGS), put(0, 2), call(3, 1), isOf(LONGS), get(0, 2), gives(0));
        more(x, load(1, 3), make(1, INTS), put(1, 2));
        ends(x, 55, 200, RETURNED, 55, 1 + 3 + 1 + 4, 0, 0, 2, 0, 2, 0, 7 + 4);
    }
}
