/** Promise 5: run(), which is told here of step() as well: each ACT, each THROW, STEPS and THE STOP. */
public final class P05RunTest {
    private static final Check c = new Check();

    public static void main(String[] args) {
        wrongNumbers();
        reckoning();
        jumps();
        calls();
        throwsUp();
        again();
        guards();
        stops();
        lateStops();
        large();
        c.end();
    }

    private static long[] i(int act, int r, int s, long v) {
        return Check.i(act, r, s, v);
    }

    private static void wrongNumbers() {
        StepMarks x = Check.of(i(Check.RETURN, 0, 0, 0));
        c.gives(x, 5, 5);
        for (int method : new int[] {-1, 1, 6, Integer.MIN_VALUE, Integer.MAX_VALUE}) {
            c.due("run of " + method, x.run(method, 1, 10), StepMarks.BAD);
        }
        for (int budget : new int[] {-1, 201, Integer.MIN_VALUE, Integer.MAX_VALUE}) {
            c.due("budget " + budget, x.run(0, 1, budget), StepMarks.BAD);
        }
        c.latest(x, "nothing changed", 5, 1, 0, 0, 1, 0, 0, 0, 1);
        c.both(x, 0, 6, 0, Check.STOPPED, 0, 0, 0, 0, 0, 0, 0, 0, 0);
        c.both(x, 0, 6, 200, Check.RETURNED, 6, 1, 0, 0, 1, 0, 0, 0, 1);
    }

    private static StepMarks reckons(int act, long by) {
        return Check.of(i(Check.LOAD, 2, 0, by), i(act, 0, 2, 0), i(Check.RETURN, 0, 0, 0));
    }

    private static void reckoning() {
        long least = Long.MIN_VALUE;
        long most = Long.MAX_VALUE;
        c.gives(reckons(Check.ADD, 3), 4, 7);
        c.gives(reckons(Check.ADD, 1), most, least);
        c.gives(reckons(Check.LESS, 3), 4, 1);
        c.gives(reckons(Check.LESS, 1), least, most);
        c.gives(reckons(Check.TIMES, -3), 4, -12);
        c.gives(reckons(Check.TIMES, 2), most, -2);
        c.gives(reckons(Check.OVER, 2), -7, -3);
        c.gives(reckons(Check.OVER, -1), least, least);
        c.gives(reckons(Check.REST, 2), -7, -1);
        c.gives(reckons(Check.REST, -2), 7, 1);
        c.gives(reckons(Check.REST, -1), least, 0);
        c.throwsKind(reckons(Check.OVER, 0), 5, Check.ZERO, 0);
        c.throwsKind(reckons(Check.REST, 0), 0, Check.ZERO, 0);
        c.gives(Check.of(i(Check.ADD, 0, 0, 0), i(Check.RETURN, 0, 0, 0)), 21, 42);
        c.gives(Check.of(i(Check.LESS, 3, 0, 0), i(Check.RETURN, 3, 0, 0)), 21, -21);
        c.gives(Check.of(i(Check.LESS, 0, 3, 0), i(Check.RETURN, 0, 0, 0)), 21, 21);
        for (int r = 0; r < 4; r++) {
            c.gives(Check.of(i(Check.RETURN, r, 0, 0)), 9, r == 0 ? 9 : 0);
            c.gives(Check.of(i(Check.LOAD, r, 0, most), i(Check.RETURN, r, 0, 0)), 9, most);
        }
    }

    private static void jumps() {
        StepMarks over = Check.of(i(Check.JUMP, 0, 0, 2), i(Check.LOAD, 0, 0, 1), i(Check.RETURN, 0, 0, 0));
        c.both(over, 0, 8, 200, Check.RETURNED, 8, 1, 0, 0, 1, 0, 0, 0, 2);
        StepMarks behind = Check.of(i(Check.JUMP_ABOVE, 0, 0, 40), i(Check.RETURN, 0, 0, 0));
        c.both(behind, 0, 8, 200, Check.RETURNED, 0, 1, 0, 0, 1, 0, 0, 0, 2);
        c.both(behind, 0, 0, 200, Check.RETURNED, 0, 1, 0, 0, 1, 0, 0, 0, 2);
        c.both(behind, 0, -8, 200, Check.RETURNED, -8, 1, 0, 0, 1, 0, 0, 0, 2);
        StepMarks own = Check.of(i(Check.JUMP, 0, 0, 0));
        c.both(own, 0, 0, 30, Check.STOPPED, 0, 30, 0, 0, 1, 0, 0, 0, 30);
        StepMarks ownIf = Check.of(i(Check.JUMP_ABOVE, 0, 0, 0), i(Check.RETURN, 0, 0, 0));
        c.both(ownIf, 0, 1, 30, Check.STOPPED, 0, 30, 0, 0, 1, 0, 0, 0, 30);
        c.both(ownIf, 0, 0, 1, Check.RETURNED, 0, 1, 0, 0, 1, 0, 0, 0, 2);
    }

    private static void calls() {
        StepMarks x = Check.of(i(Check.LOAD, 1, 0, 6), i(Check.CALL, 1, 0, 1), i(Check.ADD, 0, 1, 0), i(Check.RETURN, 0, 0, 0));
        Check.add(x, i(Check.LOAD, 3, 0, 7), i(Check.TIMES, 0, 3, 0), i(Check.LOAD, 1, 0, 99), i(Check.RETURN, 0, 0, 0));
        c.both(x, 0, 100, 200, Check.RETURNED, 142, 2, 0, 0, 2, 0, 0, 0, 8);
        c.both(x, 0, 100, 2, Check.RETURNED, 142, 2, 0, 0, 2, 0, 0, 0, 8);
        c.both(x, 0, 100, 1, Check.STOPPED, 0, 1, 0, 0, 1, 0, 0, 0, 2);
        // a FRAME begins anew: no registers, no row, no caught THROW, no guards of an earlier one at the same depth
        StepMarks y = Check.of(i(Check.CALL, 0, 0, 1), i(Check.LOAD, 0, 0, 0), i(Check.CALL, 0, 0, 1), i(Check.RETURN, 0, 0, 0));
        Check.add(y, i(Check.JUMP_ABOVE, 0, 0, 5), i(Check.COUNT, 2, 0, 0), i(Check.AGAIN, 0, 0, 0), i(Check.LET, 0, 0, 2),
            i(Check.RETURN, 1, 0, 0),
            i(Check.LOAD, 1, 0, 3), i(Check.MAKE, 1, 0, 1), i(Check.HOLD, 0, 0, 2), i(Check.OVER, 1, 2, 0));
        y.handler(1, 8, 9, 40, Check.ALL);
        y.handler(1, 1, 2, 2, 1 << Check.NULL);
        y.handler(1, 2, 3, 3, 1 << Check.NULL);
        y.handler(1, 3, 4, 4, 1 << Check.STATE);
        c.both(y, 0, 1, 200, Check.RETURNED, 0, 1 + 1 + 4 + 1 + 1 + 3, 0, 0, 2, 4, 1, 1, 4 + 6 + 5);
        // more than 12 FRAMES in all are fine, if no more than 12 stand at a time
        StepMarks z = Check.of(i(Check.LOAD, 2, 0, 1), i(Check.CALL, 1, 0, 1), i(Check.LESS, 0, 2, 0), i(Check.JUMP_ABOVE, 0, 0, 1));
        Check.add(z);
        c.both(z, 0, 50, 200, Check.RETURNED, 0, 1 + 50 + 49, 0, 0, 2, 0, 0, 0, 1 + 200 + 1);
        c.due("r of a CALL gets 0 from an empty METHOD", emptyCall().run(0, 9, 10), 0);
        c.gives(emptyCall(), 9, 0);
    }

    private static StepMarks emptyCall() {
        StepMarks x = Check.of(i(Check.CALL, 0, 0, 1), i(Check.RETURN, 0, 0, 0));
        Check.add(x);
        return x;
    }

    private static void throwsUp() {
        // the THROW of a CALL: r stays, the HANDLER is looked for at the PLACE of the CALL
        StepMarks x = Check.of(i(Check.CALL, 0, 0, 1), i(Check.RETURN, 0, 0, 0));
        Check.add(x, i(Check.CALL, 0, 0, 2), i(Check.LOAD, 0, 0, 1));
        Check.add(x, i(Check.LOAD, 1, 0, -1), i(Check.MAKE, 1, 0, 0));
        c.both(x, 0, 77, 200, Check.THREW, 0, 4, 3, 0, 3, 0, 0, 0, 4);
        x.handler(1, 1, 2, 0, Check.ALL);
        c.both(x, 0, 77, 200, Check.THREW, 0, 4, 3, 0, 3, 0, 0, 0, 4);
        x.handler(0, 0, 1, 1, 1 << Check.SIZE);
        c.both(x, 0, 77, 200, Check.RETURNED, 77, 5, 0, 0, 3, 1, 0, 0, 5);
        c.throwsKind(Check.of(i(Check.THROW, 0, 0, 0)), -1, Check.OWN, -1);
        c.throwsKind(Check.of(i(Check.THROW, 0, 0, 0)), 0x1_8000_0000L, Check.OWN, Integer.MIN_VALUE);
        c.throwsKind(Check.of(i(Check.THROW, 0, 0, 0)), 0x7_0000_0000L, Check.OWN, 0);
    }

    private static void again() {
        c.throwsKind(Check.of(i(Check.AGAIN, 0, 0, 0)), 0, Check.STATE, 0);
        // the latest that was caught comes again, with its number
        StepMarks x = Check.of(i(Check.COUNT, 0, 0, 0), i(Check.LOAD, 1, 0, 12), i(Check.THROW, 1, 0, 0), i(Check.AGAIN, 0, 0, 0));
        x.handler(0, 0, 1, 1, Check.ALL);
        x.handler(0, 2, 3, 3, Check.ALL);
        c.both(x, 0, 0, 200, Check.THREW, 0, 3, 8, 12, 1, 2, 0, 0, 4);
        StepMarks y = Check.of(i(Check.LOAD, 1, 0, 12), i(Check.THROW, 1, 0, 0), i(Check.COUNT, 0, 0, 0), i(Check.AGAIN, 0, 0, 0));
        y.handler(0, 2, 3, 3, Check.ALL);
        y.handler(0, 1, 2, 2, Check.ALL);
        c.both(y, 0, 0, 200, Check.THREW, 0, 3, 1, 0, 1, 2, 0, 0, 4);
        // what another FRAME caught is not this one's
        StepMarks z = Check.of(i(Check.COUNT, 0, 0, 0), i(Check.CALL, 0, 0, 1));
        z.handler(0, 0, 1, 1, Check.ALL);
        Check.add(z, i(Check.AGAIN, 0, 0, 0));
        c.both(z, 0, 0, 200, Check.THREW, 0, 3, 7, 0, 2, 1, 0, 0, 3);
        // nor what a FRAME before it, at the same depth, caught: neither its kind nor its number
        StepMarks w = Check.of(i(Check.CALL, 0, 0, 1), i(Check.CALL, 0, 0, 1));
        Check.add(w, i(Check.JUMP_ABOVE, 0, 0, 2), i(Check.AGAIN, 0, 0, 0), i(Check.THROW, 0, 0, 0));
        w.handler(1, 2, 3, 3, Check.ALL);
        c.both(w, 0, 44, 200, Check.THREW, 0, 4, 7, 0, 2, 1, 0, 0, 7);
        c.both(w, 1, 44, 200, Check.RETURNED, 0, 2, 0, 0, 1, 1, 0, 0, 3);
        c.both(w, 1, 0, 200, Check.THREW, 0, 1, 7, 0, 1, 0, 0, 0, 2);
    }

    private static void guards() {
        for (int guard = 0; guard < 3; guard++) {
            StepMarks x = Check.of(i(Check.HOLD, 0, 0, guard), i(Check.LET, 0, 0, (guard + 1) % 3));
            c.both(x, 0, 0, 200, Check.THREW, 0, 1, 7, 0, 1, 0, 0, 1, 2);
        }
        StepMarks twice = Check.of(i(Check.HOLD, 0, 0, 0), i(Check.HOLD, 0, 0, 0), i(Check.LET, 0, 0, 0), i(Check.LET, 0, 0, 0),
            i(Check.HOLD, 0, 0, 1), i(Check.LET, 0, 0, 1), i(Check.LET, 0, 0, 0));
        c.both(twice, 0, 0, 200, Check.THREW, 0, 1, 7, 0, 1, 0, 0, 2, 7);
        // a FRAME does not hold what its caller holds; all of them count together; the end lets all go
        StepMarks x = Check.of(i(Check.HOLD, 0, 0, 0), i(Check.HOLD, 0, 0, 2), i(Check.CALL, 0, 0, 1), i(Check.CALL, 0, 0, 1),
            i(Check.CALL, 0, 0, 2));
        Check.add(x, i(Check.HOLD, 0, 0, 0), i(Check.HOLD, 0, 0, 1));
        Check.add(x, i(Check.LET, 0, 0, 0));
        c.both(x, 0, 0, 200, Check.THREW, 0, 4, 7, 0, 2, 0, 0, 4, 5 + 6 + 1);
        // THE STOP lets go, too
        StepMarks stopped = Check.of(i(Check.HOLD, 0, 0, 0), i(Check.JUMP, 0, 0, 1));
        c.both(stopped, 0, 0, 5, Check.STOPPED, 0, 5, 0, 0, 1, 0, 0, 1, 6);
        c.both(stopped, 0, 0, 5, Check.STOPPED, 0, 5, 0, 0, 1, 0, 0, 1, 6);
        // a FRAME that ends by a THROW lets go as well
        StepMarks y = Check.of(i(Check.CALL, 0, 0, 1), i(Check.CALL, 0, 0, 1), i(Check.HOLD, 0, 0, 0), i(Check.HOLD, 0, 0, 0));
        Check.add(y, i(Check.HOLD, 0, 0, 1), i(Check.THROW, 0, 0, 0));
        y.handler(0, 0, 1, 1, Check.ALL);
        y.handler(0, 1, 2, 2, Check.ALL);
        c.both(y, 0, 0, 200, Check.RETURNED, 0, 5, 0, 0, 2, 2, 0, 2, 9);
    }

    private static void stops() {
        // no HANDLER takes THE STOP
        StepMarks deep = Check.of(i(Check.CALL, 0, 0, 0));
        deep.handler(0, 0, 1, 1, Check.ALL);
        c.both(deep, 0, 0, 200, Check.STOPPED, 0, 12, 0, 0, 12, 0, 0, 0, 12);
        c.both(deep, 0, 0, 12, Check.STOPPED, 0, 12, 0, 0, 12, 0, 0, 0, 12);
        c.both(deep, 0, 0, 11, Check.STOPPED, 0, 11, 0, 0, 11, 0, 0, 0, 11);
        StepMarks none = Check.of(i(Check.CALL, 0, 0, 5));
        none.handler(0, 0, 1, 1, Check.ALL);
        c.both(none, 0, 0, 200, Check.STOPPED, 0, 1, 0, 0, 1, 0, 0, 0, 1);
        // a HANDLER that cannot be counted does not take it, and it is no THROW of the run
        StepMarks taken = Check.of(i(Check.THROW, 0, 0, 0));
        taken.handler(0, 0, 1, 1, Check.ALL);
        c.both(taken, 0, 5, 1, Check.STOPPED, 0, 1, 0, 0, 1, 0, 0, 0, 1);
        c.both(taken, 0, 5, 2, Check.RETURNED, 0, 2, 0, 0, 1, 1, 0, 0, 2);
        // a MAKE that cannot be counted is not begun
        StepMarks make = Check.of(i(Check.MAKE, 0, 0, 0));
        c.both(make, 0, 5, 6, Check.STOPPED, 0, 1, 0, 0, 1, 0, 0, 0, 0);
        c.both(make, 0, 5, 7, Check.RETURNED, 0, 7, 0, 0, 1, 0, 1, 0, 2);
        c.both(make, 0, Long.MAX_VALUE, 200, Check.STOPPED, 0, 1, 0, 0, 1, 0, 0, 0, 0);
        c.both(make, 0, Integer.MAX_VALUE, 200, Check.STOPPED, 0, 1, 0, 0, 1, 0, 0, 0, 0);
        c.both(make, 0, Long.MIN_VALUE, 200, Check.THREW, 0, 2, 3, 0, 1, 0, 0, 0, 1);
        c.both(make, 0, Long.MIN_VALUE, 1, Check.STOPPED, 0, 1, 0, 0, 1, 0, 0, 0, 0);
        c.both(make, 0, 0, 1, Check.STOPPED, 0, 1, 0, 0, 1, 0, 0, 0, 0);
        c.both(make, 0, 0, 2, Check.RETURNED, 0, 2, 0, 0, 1, 0, 1, 0, 2);
        c.both(make, 0, 198, 200, Check.RETURNED, 0, 200, 0, 0, 1, 0, 1, 0, 2);
        c.both(make, 0, 199, 200, Check.STOPPED, 0, 1, 0, 0, 1, 0, 0, 0, 0);
    }

    /** The 31st THROW that would be taken, and the 2001st INSTRUCTION. */
    private static void lateStops() {
        StepMarks x = Check.of(i(Check.COUNT, 1, 0, 0), i(Check.RETURN, 0, 0, 0));
        x.handler(0, 0, 1, 0, Check.ALL);
        c.both(x, 0, 0, 200, Check.STOPPED, 0, 31, 0, 0, 1, 30, 0, 0, 31);
        c.both(x, 0, 0, 30, Check.STOPPED, 0, 30, 0, 0, 1, 29, 0, 0, 30);
        // a 31st THROW that no HANDLER would take is a THROW
        StepMarks y = Check.of(i(Check.LOAD, 1, 0, 1), i(Check.LESS, 0, 1, 0), i(Check.JUMP_ABOVE, 0, 0, 4), i(Check.OVER, 0, 2, 0),
            i(Check.COUNT, 3, 0, 0));
        y.handler(0, 4, 5, 1, Check.ALL);
        c.both(y, 0, 31, 200, Check.THREW, 0, 31, 6, 0, 1, 30, 0, 0, 1 + 30 * 3 + 3);
        c.both(y, 0, 32, 200, Check.STOPPED, 0, 31, 0, 0, 1, 30, 0, 0, 1 + 31 * 3);
        lateInstructions();
    }

    /** A loop of 20 INSTRUCTIONS with a MAKE first: 100 rounds are 2000. */
    private static void lateInstructions() {
        StepMarks x = Check.of(i(Check.MAKE, 3, 0, 0));
        for (int n = 0; n < 18; n++) {
            x.instruction(0, Check.ADD, 1, 2, 0);
        }
        x.instruction(0, Check.JUMP, 0, 0, 0);
        c.both(x, 0, 0, 200, Check.STOPPED, 0, 200, 0, 0, 1, 0, 100, 0, 2000);
        c.both(x, 0, 0, 199, Check.STOPPED, 0, 199, 0, 0, 1, 0, 99, 0, 1980);
        c.both(x, 0, 0, 198, Check.STOPPED, 0, 198, 0, 0, 1, 0, 99, 0, 1980);
        // without the MAKE the 2001st is met with budget left
        StepMarks y = Check.of();
        for (int n = 0; n < 39; n++) {
            y.instruction(0, Check.ADD, 1, 2, 0);
        }
        y.instruction(0, Check.JUMP, 0, 0, 0);
        c.both(y, 0, 0, 200, Check.STOPPED, 0, 1 + 50, 0, 0, 1, 0, 0, 0, 2000);
        lateMake();
        lateEnd(36, Check.RETURNED);
        lateEnd(37, Check.STOPPED);
    }

    /** The 2001st is a MAKE: its STEPS are counted, it is not begun. */
    private static void lateMake() {
        StepMarks x = Check.of(i(Check.MAKE, 3, 0, 0));
        for (int n = 0; n < 38; n++) {
            x.instruction(0, Check.ADD, 1, 2, 0);
        }
        x.instruction(0, Check.JUMP, 0, 0, 0);
        c.both(x, 0, 0, 200, Check.STOPPED, 0, 1 + 50 + 51, 0, 0, 1, 0, 50, 0, 2000);
        c.both(x, 0, 0, 101, Check.STOPPED, 0, 101, 0, 0, 1, 0, 50, 0, 2000);
    }

    /** The RETURN 0 behind the last INSTRUCTION may be the 2001st, too: with 36 ADDS it is the 2000th. */
    private static void lateEnd(int adds, int outcome) {
        StepMarks x = Check.of(i(Check.LOAD, 2, 0, 1), i(Check.LESS, 0, 2, 0));
        for (int n = 0; n < 37; n++) {
            x.instruction(0, Check.ADD, 1, 3, 0);
        }
        x.instruction(0, Check.JUMP_ABOVE, 0, 0, 0);
        Check.add(x, i(Check.LOAD, 1, 0, 49), i(Check.CALL, 1, 0, 0));
        for (int n = 0; n < adds; n++) {
            x.instruction(1, Check.ADD, 0, 0, 0);
        }
        // 2 ahead, 49 rounds of 40 and a RETURN 0 in the CALL, the ADDS; then the RETURN 0
        c.both(x, 1, 0, 200, outcome, 0, 1 + 1 + 48, 0, 0, 2, 0, 0, 0, 2000);
    }

    private static void large() {
        StepMarks x = new StepMarks();
        int big = Check.add(x, i(Check.RETURN, 0, 0, 0));
        int caller = Check.add(x, i(Check.CALL, 0, 0, big), i(Check.RETURN, 0, 0, 0));
        c.both(x, caller, 3, 50, Check.RETURNED, 3, 2, 0, 0, 2, 0, 0, 0, 3);
        for (int place = 1; place < 40; place++) {
            x.instruction(big, Check.JUMP, 0, 0, 0);
        }
        c.due("LARGE", x.run(big, 1, 50), StepMarks.LARGE);
        c.due("LARGE", x.step(big, 1, 50), StepMarks.LARGE);
        c.due("BAD comes before LARGE", x.run(big, 1, 201), StepMarks.BAD);
        c.latest(x, "nothing changed", 3, 2, 0, 0, 2, 0, 0, 0, 3);
        c.both(x, caller, 3, 50, Check.STOPPED, 0, 1, 0, 0, 1, 0, 0, 0, 1);
    }
}
