/** Promise 5: LOAD, ADD, LESS, TIMES, OVER, REST. */
public final class P05ReckonTest extends Check {
    private static final long[] NUMBERS = {0, 1, -1, 2, -2, 7, -7, 1L << 31, 1L << 32, -(1L << 32), MOST, LEAST, MOST - 1, LEAST + 1};

    public static void main(String[] args) {
        promise(5);
        all();
        end();
    }

    static void all() {
        holds("LOAD: r becomes v.", P05ReckonTest::loads);
        holds("ADD: r becomes r and s together (all wrap)", P05ReckonTest::adds);
        holds("LESS: r less s (all wrap)", P05ReckonTest::lessens);
        holds("TIMES: r times s (all wrap)", P05ReckonTest::multiplies);
        holds("OVER: by s (cut)", P05ReckonTest::divides);
        holds("OVER (all wrap): the least long by -1", () -> returns(by(i(4, 0, 2, 0), -1), LEAST, LEAST));
        holds("REST: what that leaves", P05ReckonTest::leaves);
        holds("REST (all wrap): the least long by -1", () -> returns(by(i(5, 0, 2, 0), -1), LEAST, 0));
        holds("4: ZERO", () -> zero(4));
        holds("5: ZERO", () -> zero(5));
        holds("ZERO, and r stays as it was", P05ReckonTest::staysAtZero);
        holds("r becomes, s stays; r and s may be one", P05ReckonTest::oneAndTheSame);
        holds("r and s are those that were told, at each PLACE from 0 on", P05ReckonTest::eachPlace);
    }

    /** What it gets, reckoned with this in REGISTER 2. */
    private static StepMarks by(long[] act, long second) {
        return of(load(2, second), act, gives(0));
    }

    private static void loads() {
        for (long v : NUMBERS) {
            for (int r = 0; r < 4; r++) {
                returns(of(load(r, v), gives(r)), 5, v);
            }
        }
    }

    private static void adds() {
        returns(by(add(0, 2), 3), 4, 7);
        returns(by(add(0, 2), 1), MOST, LEAST);
        returns(by(add(0, 2), -1), LEAST, MOST);
        returns(by(add(0, 2), LEAST), LEAST, 0);
        for (long a : NUMBERS) {
            for (long b : NUMBERS) {
                returns(by(add(0, 2), b), a, a + b);
            }
        }
    }

    private static void lessens() {
        returns(by(less(0, 2), 3), 4, 1);
        returns(by(less(0, 2), 1), LEAST, MOST);
        returns(by(less(0, 2), LEAST), 0, LEAST);
        for (long a : NUMBERS) {
            for (long b : NUMBERS) {
                returns(by(less(0, 2), b), a, a - b);
            }
        }
    }

    private static void multiplies() {
        returns(by(times(0, 2), -3), 4, -12);
        returns(by(times(0, 2), 2), MOST, -2);
        returns(by(times(0, 2), -1), LEAST, LEAST);
        returns(by(times(0, 2), 1L << 32), 1L << 32, 0);
        for (long a : NUMBERS) {
            for (long b : NUMBERS) {
                returns(by(times(0, 2), b), a, a * b);
            }
        }
    }

    private static void divides() {
        returns(by(over(0, 2), 2), 7, 3);
        returns(by(over(0, 2), 2), -7, -3);
        returns(by(over(0, 2), -2), 7, -3);
        returns(by(over(0, 2), -2), -7, 3);
        returns(by(over(0, 2), 8), 7, 0);
        returns(by(over(0, 2), 8), -7, 0);
        returns(by(over(0, 2), LEAST), MOST, 0);
        returns(by(over(0, 2), 1L << 32), MOST, (1L << 31) - 1);
    }

    private static void leaves() {
        returns(by(rest(0, 2), 2), 7, 1);
        returns(by(rest(0, 2), 2), -7, -1);
        returns(by(rest(0, 2), -2), 7, 1);
        returns(by(rest(0, 2), -2), -7, -1);
        returns(by(rest(0, 2), 8), -7, -7);
        returns(by(rest(0, 2), 7), -7, 0);
        returns(by(rest(0, 2), LEAST), MOST, MOST);
        returns(by(rest(0, 2), 1L << 32), (5L << 32) + 3, 3);
    }

    private static void zero(int act) {
        for (long a : NUMBERS) {
            throwsKind(by(i(act, 0, 2, 0), 0), a, ZERO, 0);
        }
        // all of s is looked at
        due("s with only high bits", go(by(i(act, 0, 2, 0), 1L << 32), 0, 5, 200), RETURNED);
    }

    private static void staysAtZero() {
        for (int act = 4; act <= 5; act++) {
            StepMarks x = by(i(act, 0, 2, 0), 0);
            handler(x, 0, 1, 2, 2, 1 << ZERO);
            returns(x, 55, 55);
        }
    }

    private static void oneAndTheSame() {
        returns(of(add(0, 0), gives(0)), 21, 42);
        returns(of(less(0, 0), gives(0)), 21, 0);
        returns(of(times(0, 0), gives(0)), 21, 441);
        returns(of(over(0, 0), gives(0)), 21, 1);
        returns(of(rest(0, 0), gives(0)), 21, 0);
        throwsKind(of(over(0, 0)), 0, ZERO, 0);
        throwsKind(of(rest(0, 0)), 0, ZERO, 0);
        for (int act = 1; act <= 5; act++) {
            returns(of(load(3, 4), i(act, 0, 3, 0), gives(3)), 9, 4);
            returns(of(load(3, 4), i(act, 3, 0, 0), gives(0)), 9, 9);
        }
    }

    /** At PLACE 0 all REGISTERS but the first are 0; at the others they are 1, 10, 100, 1000. */
    private static void eachPlace() {
        for (int r = 0; r < 4; r++) {
            for (int s = 0; s < 4; s++) {
                long first = r == 0 ? 9 : 0;
                long second = s == 0 ? 9 : 0;
                returns(of(add(r, s), gives(r)), 9, first + second);
                returns(of(less(r, s), gives(r)), 9, first - second);
                for (int place = 4; place <= 38; place += 17) {
                    StepMarks x = of(load(0, 1), load(1, 10), load(2, 100), load(3, 1000));
                    fill(x, 0, load(0, 1), place - 4);
                    fill(x, 0, add(r, s), 1);
                    fill(x, 0, gives(r), 1);
                    returns(x, 9, power(r) + power(s));
                }
            }
        }
    }

    private static long power(int of) {
        long all = 1;
        for (int n = 0; n < of; n++) {
            all *= 10;
        }
        return all;
    }
}
