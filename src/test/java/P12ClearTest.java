/** Promise 12: clear(). */
public final class P12ClearTest extends Check {
    public static void main(String[] args) {
        promise(12);
        holds("how many there were: 0 .. 6", P12ClearTest::howMany);
        holds("how many there were: none any more when it is called again", P12ClearTest::twice);
        holds("No METHODS: all calls of one are BAD", P12ClearTest::noMethods);
        holds("No METHODS: new ones come from 0 on, 6 again", P12ClearTest::fromZero);
        holds("No METHODS: nothing of an old one is in a new one", P12ClearTest::nothingLeft);
        holds("No METHODS: a new one is not LARGE, nor FULL, as an old one was", P12ClearTest::notLargeNorFull);
        holds("No METHODS: a CALL of an old one is THE STOP", P12ClearTest::callOfAnOldOne);
        holds("What the latest run told stays.", P12ClearTest::toldStays);
        end();
    }

    private static void howMany() {
        for (int n = 0; n <= 6; n++) {
            StepMarks x = new StepMarks();
            for (int m = 0; m < n; m++) {
                x.method();
            }
            due("of " + n, x.clear(), n);
        }
        StepMarks x = new StepMarks();
        for (int m = 0; m < 9; m++) {
            x.method();
        }
        due("those that were FULL are none", x.clear(), 6);
    }

    private static void twice() {
        StepMarks x = of(gives(0));
        more(x);
        due("two", x.clear(), 2);
        due("none", x.clear(), 0);
        due("none", x.clear(), 0);
        x.method();
        due("one", x.clear(), 1);
    }

    private static StepMarks full() {
        StepMarks x = new StepMarks();
        for (int m = 0; m < 6; m++) {
            more(x, make(0, INTS), jumpAbove(0, 4), throwOwn(0), load(0, 1), gives(0));
            handler(x, m, 2, 3, 3, ALL);
        }
        return x;
    }

    private static void noMethods() {
        StepMarks x = full();
        x.clear();
        for (int m = -1; m <= 6; m++) {
            due("instruction", x.instruction(m, 0, 0, 0, 0), BAD);
            due("handler", x.handler(m, 0, 1, 0, 2), BAD);
            due("run", x.run(m, 0, 10), BAD);
            due("step", x.step(m, 0, 10), BAD);
            due("entries", x.entries(m), BAD);
            due("entry", x.entry(m, 0, 0), BAD);
            due("about", x.about(m, 0), BAD);
        }
    }

    private static void fromZero() {
        StepMarks x = full();
        x.clear();
        for (int m = 0; m < 6; m++) {
            due("not yet " + m, x.about(m, 0), BAD);
            due("method", x.method(), m);
        }
        due("a 7th", x.method(), FULL);
    }

    private static void nothingLeft() {
        StepMarks x = full();
        x.clear();
        for (int m = 0; m < 6; m++) {
            x.method();
            due("INSTRUCTIONS", x.about(m, 0), 0);
            due("HANDLERS", x.about(m, 1), 0);
            due("MARKS", x.about(m, 2), 1);
            due("ENTRIES", x.entries(m), 2);
            due("ENTRY 1", x.entry(m, 1, 0), 0);
            due("ENTRY 2", x.entry(m, 2, 0), NONE);
            endsOf(x, m, 9, 10, RETURNED, 0, 1, 0, 0, 1, 0, 0, 0, 1);
            due("the first", x.instruction(m, 15, 0, 0, 0), 0);
            endsOf(x, m, 9, 10, THREW, 0, 1, OWN, 9, 1, 0, 0, 0, 1);
            due("step", x.step(m, 9, 10), THREW);
            due("the first", x.handler(m, 0, 1, 40, ALL), 0);
            endsOf(x, m, 9, 10, RETURNED, 0, 2, 0, 0, 1, 1, 0, 0, 2);
        }
    }

    private static void notLargeNorFull() {
        StepMarks x = new StepMarks();
        moreLarge(x);
        for (int n = 0; n < 4; n++) {
            handler(x, 0, 0, 1, 0, ALL);
        }
        due("FULL", x.instruction(0, 0, 0, 0, 0), FULL);
        due("FULL", x.handler(0, 0, 1, 0, 2), FULL);
        due("LARGE", x.entries(0), LARGE);
        due("one", x.clear(), 1);
        due("anew", x.method(), 0);
        due("not LARGE", x.entries(0), 2);
        due("not LARGE", x.run(0, 5, 1), RETURNED);
        due("not FULL", x.instruction(0, 0, 0, 0, 0), 0);
        due("not FULL", x.handler(0, 0, 1, 0, 2), 0);
    }

    private static void callOfAnOldOne() {
        StepMarks x = full();
        x.clear();
        more(x, call(0, 1), gives(0));
        endsOf(x, 0, 9, 10, STOPPED, 0, 1, 0, 0, 1, 0, 0, 0, 1);
        due("step", x.step(0, 9, 10), STOPPED);
    }

    private static void toldStays() {
        StepMarks x = of(hold(0), make(0, BYTES), call(0, 1), gives(0));
        handler(x, 0, 0, 4, 3, ALL);
        more(x, throwOwn(0));
        more(x);
        due("run", x.run(0, 4, 100), RETURNED);
        latest(x, "run", 4, 1 + 5 + 1 + 1, 0, 0, 2, 1, 1, 1, 5);
        due("three", x.clear(), 3);
        latest(x, "run, after clear()", 4, 8, 0, 0, 2, 1, 1, 1, 5);
        due("none", x.clear(), 0);
        latest(x, "run, after clear() again", 4, 8, 0, 0, 2, 1, 1, 1, 5);
        more(x, throwOwn(0));
        latest(x, "run, after another METHOD", 4, 8, 0, 0, 2, 1, 1, 1, 5);
        due("step", x.step(0, 6, 100), THREW);
        x.clear();
        latest(x, "step, after clear()", 0, 1, OWN, 6, 1, 0, 0, 0, 1);
    }
}
