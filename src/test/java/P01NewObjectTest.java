/** Promise 1: a new object. */
public final class P01NewObjectTest extends Check {
    public static void main(String[] args) {
        promise(1);
        holds("No METHODS.", P01NewObjectTest::noMethods);
        holds("No METHODS: clear() finds none", () -> due("clear", new StepMarks().clear(), 0));
        holds("a new object has no run to tell of", () -> latest(new StepMarks(), "none", 0, 0, 0, 0, 0, 0, 0, 0, 0));
        holds("a new object has nothing of another", P01NewObjectTest::ofItsOwn);
        holds("NONE = -1, BAD = -2, FULL = -3, LARGE = -4", P01NewObjectTest::constants);
        holds("An object is used for at most 512 calls after it has been made: also the 512th is answered", P01NewObjectTest::manyCalls);
        end();
    }

    private static void noMethods() {
        StepMarks x = new StepMarks();
        for (int m : new int[] {-1, 0, 1, 2, 3, 4, 5, 6, Integer.MIN_VALUE, Integer.MAX_VALUE}) {
            due("instruction of " + m, x.instruction(m, 0, 0, 0, 0), BAD);
            due("handler of " + m, x.handler(m, 0, 1, 0, 2), BAD);
            due("run of " + m, x.run(m, 0, 10), BAD);
            due("step of " + m, x.step(m, 0, 10), BAD);
            due("entries of " + m, x.entries(m), BAD);
            due("entry of " + m, x.entry(m, 0, 0), BAD);
            due("about of " + m, x.about(m, 0), BAD);
        }
        due("the first METHOD", x.method(), 0);
    }

    private static void ofItsOwn() {
        StepMarks x = of(hold(1), throwOwn(0));
        handler(x, 0, 0, 1, 0, ALL);
        ends(x, 9, 200, THREW, 0, 1, OWN, 9, 1, 0, 0, 1, 2);
        StepMarks y = new StepMarks();
        due("its METHODS", y.about(0, 0), BAD);
        latest(y, "none", 0, 0, 0, 0, 0, 0, 0, 0, 0);
        due("its first METHOD", y.method(), 0);
        ends(y, 9, 200, RETURNED, 0, 1, 0, 0, 1, 0, 0, 0, 1);
        latest(x, "the other one's run stays", 0, 1, OWN, 9, 1, 0, 0, 1, 2);
        due("the other one's METHODS stay", x.clear(), 1);
    }

    private static void constants() {
        due("NONE", StepMarks.NONE, NONE);
        due("BAD", StepMarks.BAD, BAD);
        due("FULL", StepMarks.FULL, FULL);
        due("LARGE", StepMarks.LARGE, LARGE);
    }

    /** 4 calls make a METHOD that goes as deep and as long as it may, 508 runs and looks follow. */
    private static void manyCalls() {
        StepMarks x = of(make(1, LONGS), less(1, 0), call(0, 0));
        for (int n = 0; n < 254; n++) {
            due("run or step", n % 2 == 0 ? x.run(0, 5, 200) : x.step(0, 5, 200), STOPPED);
            due("told(3)", x.told(3), 12);
        }
    }
}
