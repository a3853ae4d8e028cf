/** Promise 7: answer(). */
public final class P07AnswerTest extends Check {
    public static void main(String[] args) {
        for (int way = 0; way < 2; way++) {
            promise(7, way == 1);
            String by = way == 1 ? " (step)" : " (run)";
            holds("What the latest RETURNED" + by, P07AnswerTest::returned);
            holds("0 if it did not: a THROW" + by, () -> didNot(count(1), THREW));
            holds("0 if it did not: THE STOP" + by, () -> didNot(call(0, 5), STOPPED));
            holds("0 if it did not: THE STOP of its first FRAME" + by, P07AnswerTest::notBegun);
            holds("what CALLS in it RETURNED is not what it RETURNED" + by, P07AnswerTest::ofCalls);
            holds("a refused one is not the latest: BAD" + by, P07AnswerTest::bad);
            holds("a refused one is not the latest: LARGE" + by, P07AnswerTest::large);
        }
        promise(7);
        holds("0 before any", () -> due("answer", of(gives(0)).answer(), 0));
        holds("it is told as often as it is asked for, and nothing but a run changes it", P07AnswerTest::stays);
        end();
    }

    private static void returned() {
        StepMarks x = of(gives(0));
        for (long n : new long[] {5, -5, 0, 1L << 32, LEAST, MOST}) {
            go(x, 0, n, 1);
            due("answer", x.answer(), n);
        }
        StepMarks y = of(load(0, 3));
        go(y, 0, 9, 1);
        due("RETURN 0", y.answer(), 0);
    }

    private static void didNot(long[] act, int outcome) {
        StepMarks x = of(jumpAbove(0, 2), act, gives(0));
        due("it RETURNED", go(x, 0, 5, 10), RETURNED);
        due("answer", x.answer(), 5);
        due("it did not", go(x, 0, -5, 10), outcome);
        due("answer", x.answer(), 0);
    }

    private static void notBegun() {
        StepMarks x = of(gives(0));
        go(x, 0, 5, 1);
        due("it did not begin", go(x, 0, 6, 0), STOPPED);
        due("answer", x.answer(), 0);
    }

    private static void ofCalls() {
        StepMarks x = of(call(1, 1), throwOwn(0));
        more(x, load(0, 8), gives(0));
        due("it did not", go(x, 0, 5, 10), THREW);
        due("answer", x.answer(), 0);
    }

    private static void bad() {
        StepMarks x = of(gives(0));
        go(x, 0, 5, 1);
        due("budget", go(x, 0, 6, -1), BAD);
        due("budget", go(x, 0, 6, 201), BAD);
        due("method", go(x, 1, 6, 10), BAD);
        due("answer", x.answer(), 5);
    }

    private static void large() {
        StepMarks x = of(gives(0));
        moreLarge(x);
        go(x, 0, 5, 1);
        due("LARGE", go(x, 1, 6, 10), LARGE);
        due("answer", x.answer(), 5);
    }

    private static void stays() {
        StepMarks x = of(gives(0));
        x.run(0, 5, 1);
        due("answer", x.answer(), 5);
        due("answer", x.answer(), 5);
        x.method();
        x.instruction(0, 0, 0, 0, 9);
        x.handler(0, 0, 1, 0, ALL);
        due("answer", x.answer(), 5);
        x.clear();
        due("answer", x.answer(), 5);
        x.method();
        due("answer", x.answer(), 5);
    }
}
