import java.util.ArrayList;
import java.util.List;

/**
 * The document once more, for tests: by recursion, exceptions and real arrays of each lane, so
 * that it shares no way of working with the program.
 */
final class Model {
    static class Thing {
        final int number;

        Thing(int number) {
            this.number = number;
        }
    }

    static final class Rich extends Thing {
        Rich(int number) {
            super(number);
        }
    }

    static final class Thrown extends Exception {
        final int kind;
        final int number;

        Thrown(int kind, int number) {
            super(null, null, false, false);
            this.kind = kind;
            this.number = number;
        }
    }

    static final class Stop extends Exception {
        Stop() {
            super(null, null, false, false);
        }
    }

    record Instruction(int act, int r, int s, long v) { }

    record Handler(int from, int to, int at, int mask) { }

    static final class Method {
        final List<Instruction> code = new ArrayList<>();
        final List<Handler> handlers = new ArrayList<>();

        /** sort, number, goal of each entry, however many there are. */
        List<int[]> marked() {
            List<int[]> all = new ArrayList<>();
            all.add(new int[] {1, 0, -1});
            int[] where = new int[code.size() + 1];
            for (int p = 0; p <= code.size(); p++) {
                where[p] = all.size();
                if (p < code.size() && code.get(p).act == 8) {
                    all.add(new int[] {2, code.get(p).r, -1});
                }
                all.add(new int[] {0, p, -1});
            }
            for (int p = 0; p < code.size(); p++) {
                Instruction i = code.get(p);
                if (i.act == 6 || i.act == 7) {
                    int goal = where[(int) Math.min(i.v, code.size())];
                    if (i.v <= p) {
                        all.get(where[p])[2] = all.size();
                        all.add(new int[] {1, 0, -1});
                        all.add(new int[] {3, goal, goal});
                    } else {
                        all.get(where[p])[2] = goal;
                    }
                }
            }
            for (Handler h : handlers) {
                int goal = where[Math.min(h.at, code.size())];
                all.add(new int[] {1, 0, -1});
                all.add(new int[] {3, goal, goal});
            }
            return all;
        }

        boolean large() {
            return marked().size() > 70;
        }
    }

    final List<Method> methods = new ArrayList<>();
    final int[] told = new int[8];
    long answer = 0;
    private int budget;
    private int depth;
    private int held;

    private boolean isMethod(int m) {
        return m >= 0 && m < methods.size();
    }

    int method() {
        if (methods.size() == 6) {
            return -3;
        }
        methods.add(new Method());
        return methods.size() - 1;
    }

    int instruction(int m, int act, int r, int s, long v) {
        if (!isMethod(m) || act < 0 || act > 18 || r < 0 || r > 3 || s < 0 || s > 3) {
            return -2;
        }
        long most = switch (act) {
            case 6, 7 -> 40;
            case 8, 11 -> 6;
            case 13 -> 5;
            case 17, 18 -> 2;
            default -> -1;
        };
        if (most >= 0 && (v < 0 || v > most)) {
            return -2;
        }
        List<Instruction> code = methods.get(m).code;
        if (code.size() == 40) {
            return -3;
        }
        code.add(new Instruction(act, r, s, v));
        return code.size() - 1;
    }

    int handler(int m, int from, int to, int at, int mask) {
        if (!isMethod(m) || from < 0 || from > 40 || to < 0 || to > 40 || at < 0 || at > 40) {
            return -2;
        }
        for (int bit = 0; bit < 32; bit++) {
            if ((bit < 1 || bit > 8) && (mask >>> bit & 1) == 1) {
                return -2;
            }
        }
        List<Handler> handlers = methods.get(m).handlers;
        if (handlers.size() == 4) {
            return -3;
        }
        handlers.add(new Handler(from, to, at, mask));
        return handlers.size() - 1;
    }

    int run(int m, long x, int newBudget) {
        if (!isMethod(m) || newBudget < 0 || newBudget > 200) {
            return -2;
        }
        if (methods.get(m).large()) {
            return -4;
        }
        java.util.Arrays.fill(told, 0);
        answer = 0;
        budget = newBudget;
        depth = 0;
        held = 0;
        try {
            answer = call(m, x);
            return 0;
        } catch (Stop stop) {
            return 1;
        } catch (Thrown t) {
            told[1] = t.kind;
            told[2] = t.number;
            return 2;
        }
    }

    int tell(int what) {
        return what < 0 || what > 7 ? -2 : told[what];
    }

    int entries(int m) {
        if (!isMethod(m)) {
            return -2;
        }
        return methods.get(m).large() ? -4 : methods.get(m).marked().size();
    }

    int entry(int m, int i, int what) {
        if (!isMethod(m) || what < 0 || what > 2) {
            return -2;
        }
        List<int[]> all = methods.get(m).marked();
        if (all.size() > 70) {
            return -4;
        }
        return i < 0 || i >= all.size() ? -1 : all.get(i)[what];
    }

    int about(int m, int what) {
        if (!isMethod(m) || what < 0 || what > 2) {
            return -2;
        }
        Method method = methods.get(m);
        if (what == 0) {
            return method.code.size();
        }
        if (what == 1) {
            return method.handlers.size();
        }
        if (method.large()) {
            return -4;
        }
        return (int) method.marked().stream().filter(e -> e[0] == 1 || e[0] == 2).count();
    }

    int clear() {
        int were = methods.size();
        methods.clear();
        return were;
    }

    private void count(long more) throws Stop {
        if (java.math.BigInteger.valueOf(told[0]).add(java.math.BigInteger.valueOf(more))
            .compareTo(java.math.BigInteger.valueOf(budget)) > 0) {
            throw new Stop();
        }
        told[0] += (int) more;
    }

    /** One frame, from its begin to its end. */
    private final class Call {
        final Method method;
        final long[] reg = new long[4];
        final int[] guard = new int[3];
        Object row = null;
        Thrown caught = null;
        int place = 0;
        boolean ended = false;
        long value = 0;

        Call(Method method, long x) {
            this.method = method;
            reg[0] = x;
        }

        long body() throws Thrown, Stop {
            while (!ended) {
                int here = place;
                try {
                    one();
                } catch (Thrown t) {
                    place = takes(here, t);
                }
            }
            return value;
        }

        private int takes(int here, Thrown t) throws Thrown, Stop {
            for (Handler h : method.handlers) {
                if (h.from <= here && here < h.to && (h.mask & (1 << t.kind)) != 0) {
                    if (told[4] == 30) {
                        throw new Stop();
                    }
                    count(1);
                    told[4]++;
                    caught = t;
                    return h.at;
                }
            }
            throw t;
        }

        private void begins() throws Stop {
            if (told[7] == 2000) {
                throw new Stop();
            }
            told[7]++;
        }

        private void one() throws Thrown, Stop {
            if (place >= method.code.size()) {
                begins();
                ended = true;
                return;
            }
            Instruction i = method.code.get(place);
            if (i.act == 8) {
                if (reg[i.r] == Long.MAX_VALUE) {
                    throw new Stop();
                }
                count(1 + Math.max(0, reg[i.r]));
            }
            begins();
            int r = i.r;
            int s = i.s;
            int next = place + 1;
            switch (i.act) {
                case 0 -> reg[r] = i.v;
                case 1 -> reg[r] += reg[s];
                case 2 -> reg[r] -= reg[s];
                case 3 -> reg[r] *= reg[s];
                case 4, 5 -> {
                    if (reg[s] == 0) {
                        throw new Thrown(6, 0);
                    }
                    reg[r] = i.act == 4 ? reg[r] / reg[s] : reg[r] % reg[s];
                }
                case 6, 7 -> {
                    if (i.act == 6 || reg[r] > 0) {
                        if (i.v <= place) {
                            count(1);
                        }
                        next = (int) i.v;
                    }
                }
                case 8 -> make((int) i.v, reg[r]);
                case 9 -> reg[r] = get(reg[s]);
                case 10 -> put(reg[s], reg[r]);
                case 11 -> cast((int) i.v);
                case 12 -> reg[r] = cells();
                case 13 -> reg[r] = call((int) i.v, reg[r]);
                case 14 -> {
                    ended = true;
                    value = reg[r];
                }
                case 15 -> throw new Thrown(8, (int) (reg[r] & 0xFFFFFFFFL));
                case 16 -> throw caught == null ? new Thrown(7, 0) : caught;
                case 17 -> {
                    guard[(int) i.v]++;
                    held++;
                    told[6] = Math.max(told[6], held);
                }
                default -> {
                    if (guard[(int) i.v] == 0) {
                        throw new Thrown(7, 0);
                    }
                    guard[(int) i.v]--;
                    held--;
                }
            }
            place = next;
        }

        private void make(int lane, long n) throws Thrown {
            if (n < 0) {
                throw new Thrown(3, 0);
            }
            int size = (int) n;
            row = switch (lane) {
                case 0 -> new byte[size];
                case 1 -> new short[size];
                case 2 -> new int[size];
                case 3 -> new long[size];
                case 4 -> new double[size];
                case 5 -> new Thing[size];
                default -> new Rich[size];
            };
            told[5]++;
        }

        private int cells() throws Thrown {
            if (row == null) {
                throw new Thrown(1, 0);
            }
            return java.lang.reflect.Array.getLength(row);
        }

        private int index(long n) throws Thrown {
            if (n < 0 || n >= cells()) {
                cells();
                throw new Thrown(2, 0);
            }
            return (int) n;
        }

        private long get(long n) throws Thrown {
            cells();
            int at = index(n);
            if (row instanceof byte[] a) {
                return a[at];
            } else if (row instanceof short[] a) {
                return a[at];
            } else if (row instanceof int[] a) {
                return a[at];
            } else if (row instanceof long[] a) {
                return a[at];
            } else if (row instanceof double[] a) {
                return (long) a[at];
            }
            Thing thing = ((Thing[]) row)[at];
            return thing == null ? -1 : thing.number;
        }

        private void put(long n, long value) throws Thrown {
            cells();
            int at = index(n);
            if (row instanceof byte[] a) {
                a[at] = (byte) value;
            } else if (row instanceof short[] a) {
                a[at] = (short) value;
            } else if (row instanceof int[] a) {
                a[at] = (int) value;
            } else if (row instanceof long[] a) {
                a[at] = value;
            } else if (row instanceof double[] a) {
                a[at] = (double) value;
            } else {
                int number = (int) Math.floorMod(value, 8L);
                try {
                    ((Thing[]) row)[at] = number % 2 == 1 ? new Rich(number) : new Thing(number);
                } catch (ArrayStoreException e) {
                    throw new Thrown(4, 0);
                }
            }
        }

        private void cast(int lane) throws Thrown {
            Class<?>[] lanes = {byte[].class, short[].class, int[].class, long[].class, double[].class, Thing[].class, Rich[].class};
            if (row != null && !lanes[lane].isInstance(row)) {
                throw new Thrown(5, 0);
            }
        }
    }

    private long call(int m, long x) throws Thrown, Stop {
        if (depth == 12 || !isMethod(m) || methods.get(m).large()) {
            throw new Stop();
        }
        count(1);
        depth++;
        told[3] = Math.max(told[3], depth);
        Call call = new Call(methods.get(m), x);
        try {
            return call.body();
        } finally {
            depth--;
            held -= call.guard[0] + call.guard[1] + call.guard[2];
        }
    }
}
