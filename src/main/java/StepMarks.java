/**
 * Methods of small instructions whose steps are counted, by marks in their code (run) or by a
 * plain stepper beside (step). The document's words are kept in the names: a budget of steps,
 * the stop, throws, handlers, guards, rows of lanes.
 */
public final class StepMarks {
    public static final int NONE = -1, BAD = -2, FULL = -3, LARGE = -4;

    private static final int MOST_METHODS = 6;
    private static final int MOST_PLACES = 40;
    private static final int MOST_HANDLERS = 4;
    private static final int MOST_ENTRIES = 70;
    private static final int MOST_FRAMES = 12;
    private static final int MOST_TAKEN = 30;
    private static final int MOST_INSTRUCTIONS = 2000;
    private static final int MOST_BUDGET = 200;
    private static final int REGISTERS = 4;
    private static final int GUARDS = 3;

    private static final int LOAD = 0, ADD = 1, LESS = 2, TIMES = 3, OVER = 4, REST = 5;
    private static final int JUMP = 6, JUMP_ABOVE = 7;
    private static final int MAKE = 8, GET = 9, PUT = 10, IS_OF = 11, COUNT = 12;
    private static final int CALL = 13, RETURN = 14, THROW = 15, AGAIN = 16, HOLD = 17, LET = 18;

    private static final int BYTES = 0, SHORTS = 1, INTS = 2, LONGS = 3, DOUBLES = 4;
    private static final int THINGS = 5, RICH_THINGS = 6;

    private static final int NOTHING = 0, NULL = 1, INDEX = 2, SIZE = 3, STORE = 4, CAST = 5;
    private static final int ZERO = 6, STATE = 7, OWN = 8;
    private static final int ALL_THROWS = 0x1FE;

    private static final int PLACE_ENTRY = 0, MARK = 1, MARK_CELLS = 2, LEAD = 3;

    private static final int GOING = -1, RETURNED = 0, STOPPED = 1, THREW = 2;

    private final Methods methods;
    private final Machine machine;
    private final Pacer byMarks;
    private final Pacer byPlaces;

    public StepMarks() {
        methods = new Methods();
        machine = new Machine(methods);
        byMarks = new MarkPacer();
        byPlaces = new PlainPacer();
    }

    public int method() {
        return methods.add();
    }

    public int instruction(int method, int act, int r, int s, long v) {
        Code code = methods.at(method);
        if (code == null || !within(act, LOAD, LET) || !isRegister(r) || !isRegister(s) || !numberFits(act, v)) {
            return BAD;
        }
        return code.addInstruction(act, r, s, v);
    }

    public int handler(int method, int from, int to, int at, int mask) {
        Code code = methods.at(method);
        if (code == null || !isPlace(from) || !isPlace(to) || !isPlace(at) || (mask & ~ALL_THROWS) != 0) {
            return BAD;
        }
        return code.addHandler(from, to, at, mask);
    }

    public int run(int method, long x, int budget) {
        return machine.go(methods.at(method), x, budget, byMarks);
    }

    public int step(int method, long x, int budget) {
        return machine.go(methods.at(method), x, budget, byPlaces);
    }

    public long answer() {
        return machine.tally.answer;
    }

    public int told(int what) {
        return machine.tally.tell(what);
    }

    public int entries(int method) {
        Code code = methods.at(method);
        if (code == null) {
            return BAD;
        }
        return code.marked.large ? LARGE : code.marked.size;
    }

    public int entry(int method, int i, int what) {
        Code code = methods.at(method);
        if (code == null || !within(what, 0, 2)) {
            return BAD;
        }
        return code.marked.large ? LARGE : code.marked.tell(i, what);
    }

    public int about(int method, int what) {
        Code code = methods.at(method);
        if (code == null || !within(what, 0, 2)) {
            return BAD;
        }
        if (what == 0) {
            return code.size;
        }
        if (what == 1) {
            return code.handlers;
        }
        return code.marked.large ? LARGE : code.marked.marks;
    }

    public int clear() {
        return methods.drop();
    }

    private static boolean within(long value, long low, long high) {
        return low <= value && value <= high;
    }

    private static boolean isRegister(int number) {
        return within(number, 0, REGISTERS - 1);
    }

    private static boolean isPlace(long number) {
        return within(number, 0, MOST_PLACES);
    }

    private static boolean numberFits(int act, long v) {
        switch (act) {
            case JUMP:
            case JUMP_ABOVE:
                return isPlace(v);
            case MAKE:
            case IS_OF:
                return within(v, BYTES, RICH_THINGS);
            case CALL:
                return within(v, 0, MOST_METHODS - 1);
            case HOLD:
            case LET:
                return within(v, 0, GUARDS - 1);
            default:
                return true;
        }
    }

    /** All METHODS: made once, and used again after they are cleared. */
    private static final class Methods {
        private final Code[] codes = new Code[MOST_METHODS];
        private int count = 0;

        Methods() {
            for (int i = 0; i < MOST_METHODS; i++) {
                codes[i] = new Code();
            }
        }

        int add() {
            if (count >= MOST_METHODS) {
                return FULL;
            }
            codes[count].empty();
            count++;
            return count - 1;
        }

        Code at(int number) {
            return within(number, 0, count - 1) ? codes[number] : null;
        }

        int drop() {
            int were = count;
            count = 0;
            return were;
        }
    }

    /** A METHOD: its INSTRUCTIONS and HANDLERS, and the MARKED CODE made of them at each change. */
    private static final class Code {
        private final int[] acts = new int[MOST_PLACES];
        private final int[] firsts = new int[MOST_PLACES];
        private final int[] seconds = new int[MOST_PLACES];
        private final long[] numbers = new long[MOST_PLACES];
        private int size = 0;
        private final int[] froms = new int[MOST_HANDLERS];
        private final int[] tos = new int[MOST_HANDLERS];
        private final int[] ats = new int[MOST_HANDLERS];
        private final int[] masks = new int[MOST_HANDLERS];
        private int handlers = 0;
        private final Marked marked = new Marked();

        void empty() {
            size = 0;
            handlers = 0;
            marked.build(this);
        }

        int addInstruction(int act, int r, int s, long v) {
            if (size >= MOST_PLACES) {
                return FULL;
            }
            acts[size] = act;
            firsts[size] = r;
            seconds[size] = s;
            numbers[size] = v;
            size++;
            marked.build(this);
            return size - 1;
        }

        int addHandler(int from, int to, int at, int mask) {
            if (handlers >= MOST_HANDLERS) {
                return FULL;
            }
            froms[handlers] = from;
            tos[handlers] = to;
            ats[handlers] = at;
            masks[handlers] = mask;
            handlers++;
            marked.build(this);
            return handlers - 1;
        }

        /** The PLACE behind the last INSTRUCTION has an ACT too: it returns. */
        int act(int place) {
            return 0 <= place && place < size ? acts[place] : RETURN;
        }

        int first(int place) {
            return 0 <= place && place < size ? firsts[place] : 0;
        }

        int second(int place) {
            return 0 <= place && place < size ? seconds[place] : 0;
        }

        long number(int place) {
            return 0 <= place && place < size ? numbers[place] : 0;
        }

        boolean isJump(int place) {
            return 0 <= place && place < size && (acts[place] == JUMP || acts[place] == JUMP_ABOVE);
        }

        boolean leadsBack(int place) {
            return isJump(place) && number(place) <= place;
        }

        int jumpPlace(int place) {
            return (int) Math.min(number(place), size);
        }

        int handlerPlace(int handler) {
            return 0 <= handler && handler < handlers ? Math.min(ats[handler], size) : size;
        }

        int handlerFor(int place, int kind) {
            for (int i = 0; i < handlers; i++) {
                if (froms[i] <= place && place < tos[i] && (masks[i] >> kind & 1) != 0) {
                    return i;
                }
            }
            return NONE;
        }

        int entriesNeeded() {
            int needed = 2 + size + 2 * handlers;
            for (int place = 0; place < size; place++) {
                if (acts[place] == MAKE) {
                    needed++;
                }
                if (leadsBack(place)) {
                    needed += 2;
                }
            }
            return needed;
        }
    }

    /** MARKED CODE: the ENTRIES of a METHOD, or only that they would be too many. */
    private static final class Marked {
        private final int[] sorts = new int[MOST_ENTRIES];
        private final int[] numbers = new int[MOST_ENTRIES];
        private final int[] goals = new int[MOST_ENTRIES];
        private final int[] begins = new int[MOST_PLACES + 1];
        private final int[] handlerMarks = new int[MOST_HANDLERS];
        private int size = 0;
        private int marks = 0;
        private boolean large = false;

        void build(Code code) {
            size = 0;
            marks = 0;
            large = code.entriesNeeded() > MOST_ENTRIES;
            if (large) {
                return;
            }
            add(MARK, 0, NONE);
            addPlaces(code);
            addJumps(code);
            addHandlers(code);
        }

        private void addPlaces(Code code) {
            for (int place = 0; place < code.size; place++) {
                begins[place] = size;
                if (code.act(place) == MAKE) {
                    add(MARK_CELLS, code.first(place), NONE);
                }
                add(PLACE_ENTRY, place, NONE);
            }
            begins[code.size] = size;
            add(PLACE_ENTRY, code.size, NONE);
        }

        private void addJumps(Code code) {
            for (int place = 0; place < code.size; place++) {
                if (code.isJump(place)) {
                    int begin = begins[code.jumpPlace(place)];
                    goals[begins[place]] = code.leadsBack(place) ? addLead(begin) : begin;
                }
            }
        }

        private void addHandlers(Code code) {
            for (int i = 0; i < code.handlers; i++) {
                handlerMarks[i] = addLead(begins[code.handlerPlace(i)]);
            }
        }

        private int addLead(int begin) {
            int mark = size;
            add(MARK, 0, NONE);
            add(LEAD, begin, begin);
            return mark;
        }

        private void add(int sort, int number, int goal) {
            if (size >= MOST_ENTRIES) {
                return;
            }
            sorts[size] = sort;
            numbers[size] = number;
            goals[size] = goal;
            size++;
            if (sort == MARK || sort == MARK_CELLS) {
                marks++;
            }
        }

        int sort(int i) {
            return 0 <= i && i < size ? sorts[i] : NONE;
        }

        int number(int i) {
            return 0 <= i && i < size ? numbers[i] : NONE;
        }

        int goal(int i) {
            return 0 <= i && i < size ? goals[i] : NONE;
        }

        int handlerMark(int handler) {
            return 0 <= handler && handler < MOST_HANDLERS ? handlerMarks[handler] : NONE;
        }

        int tell(int i, int what) {
            if (what == 0) {
                return sort(i);
            }
            return what == 1 ? number(i) : goal(i);
        }
    }

    /** The ROW of a FRAME: its cells are made once, as many as the largest BUDGET could ask for. */
    private static final class Row {
        private final long[] cells = new long[MOST_BUDGET];
        private int lane = NONE;
        private int count = 0;

        void drop() {
            lane = NONE;
            count = 0;
        }

        int make(int ofLane, long asked) {
            if (asked < 0) {
                return SIZE;
            }
            // what is asked for was counted against the BUDGET, so that the cells are always enough
            count = (int) Math.min(asked, MOST_BUDGET);
            lane = ofLane;
            long blank = holdsThings() ? NONE : 0;
            for (int i = 0; i < count; i++) {
                cells[i] = blank;
            }
            return NOTHING;
        }

        /** The THROW of a look at a cell; NOTHING, if there is such a cell. */
        int fault(long index) {
            if (lane == NONE) {
                return NULL;
            }
            return within(index, 0, count - 1) ? NOTHING : INDEX;
        }

        long cell(long index) {
            return fault(index) == NOTHING ? cells[(int) index] : 0;
        }

        int put(long index, long value) {
            int fault = fault(index);
            if (fault != NOTHING) {
                return fault;
            }
            long laid = fitted(value);
            if (lane == RICH_THINGS && (laid & 1) == 0) {
                return STORE;
            }
            cells[(int) index] = laid;
            return NOTHING;
        }

        boolean isOf(long asked) {
            return lane == NONE || lane == asked || lane == RICH_THINGS && asked == THINGS;
        }

        private boolean holdsThings() {
            return lane == THINGS || lane == RICH_THINGS;
        }

        /** A value as a cell of this LANE would tell it back. */
        private long fitted(long value) {
            switch (lane) {
                case BYTES:
                    return (byte) value;
                case SHORTS:
                    return (short) value;
                case INTS:
                    return (int) value;
                case LONGS:
                    return value;
                case DOUBLES:
                    return (long) (double) value;
                default:
                    return value & 7;
            }
        }
    }

    /** A FRAME: made once for each depth, and begun anew for each CALL there. */
    private static final class Frame {
        private final long[] registers = new long[REGISTERS];
        private final int[] holds = new int[GUARDS];
        private final Row row = new Row();
        private Code code;
        /** The PLACE of the latest INSTRUCTION; a THROW, also one of a CALL, is thrown there. */
        private int place = 0;
        /** The ENTRY of that INSTRUCTION, if MARKED CODE is run. */
        private int now = 0;
        /** Where it goes on: an ENTRY, if MARKED CODE is run, else a PLACE. */
        private int next = 0;
        private int caughtKind = NOTHING;
        private int caughtNumber = 0;

        /** A FRAME has a code before it begins, too, so that none is ever null. */
        Frame(Code code) {
            this.code = code;
        }

        void begin(Code newCode, long x) {
            code = newCode;
            for (int i = 0; i < REGISTERS; i++) {
                registers[i] = 0;
            }
            registers[0] = x;
            for (int i = 0; i < GUARDS; i++) {
                holds[i] = 0;
            }
            row.drop();
            place = 0;
            now = 0;
            next = 0;
            caughtKind = NOTHING;
            caughtNumber = 0;
        }

        long register(int r) {
            return 0 <= r && r < REGISTERS ? registers[r] : 0;
        }

        void become(int r, long value) {
            if (0 <= r && r < REGISTERS) {
                registers[r] = value;
            }
        }

        boolean hold(long guard) {
            if (!within(guard, 0, GUARDS - 1)) {
                return false;
            }
            holds[(int) guard]++;
            return true;
        }

        boolean let(long guard) {
            if (!within(guard, 0, GUARDS - 1) || holds[(int) guard] <= 0) {
                return false;
            }
            holds[(int) guard]--;
            return true;
        }

        int held() {
            int sum = 0;
            for (int i = 0; i < GUARDS; i++) {
                sum += holds[i];
            }
            return sum;
        }
    }

    /** What a run tells, and the BUDGET that it is counted against. */
    private static final class Tally {
        private int budget = 0;
        private int steps = 0;
        private int thrown = NOTHING;
        private int thrownNumber = 0;
        private int mostFrames = 0;
        private int taken = 0;
        private int rows = 0;
        private int mostHeld = 0;
        private int begun = 0;
        private long answer = 0;

        void reset(int newBudget) {
            budget = newBudget;
            steps = 0;
            thrown = NOTHING;
            thrownNumber = 0;
            mostFrames = 0;
            taken = 0;
            rows = 0;
            mostHeld = 0;
            begun = 0;
            answer = 0;
        }

        /** Counts a step, if the BUDGET has one left; else it is THE STOP, and none is counted. */
        boolean countOne() {
            if (steps >= budget) {
                return false;
            }
            steps++;
            return true;
        }

        boolean countMake(long cells) {
            // the cells alone are held against what is left, as 1 more than the largest long would wrap
            int left = budget - steps - 1;
            if (left < 0 || cells > left) {
                return false;
            }
            steps += 1 + (int) Math.max(cells, 0);
            return true;
        }

        boolean beginInstruction() {
            if (begun >= MOST_INSTRUCTIONS) {
                return false;
            }
            begun++;
            return true;
        }

        int tell(int what) {
            switch (what) {
                case 0:
                    return steps;
                case 1:
                    return thrown;
                case 2:
                    return thrownNumber;
                case 3:
                    return mostFrames;
                case 4:
                    return taken;
                case 5:
                    return rows;
                case 6:
                    return mostHeld;
                case 7:
                    return begun;
                default:
                    return BAD;
            }
        }
    }

    /** How a FRAME goes through its code, and counts steps on the way; false is THE STOP. */
    private interface Pacer {
        boolean enter(Frame frame, Tally tally);

        /** Goes to the next INSTRUCTION, and over all that is counted ahead of it. */
        boolean fetch(Frame frame, Tally tally);

        boolean jump(Frame frame, Tally tally);

        boolean take(Frame frame, int handler, Tally tally);
    }

    /** Through MARKED CODE: only MARKS count. */
    private static final class MarkPacer implements Pacer {
        public boolean enter(Frame frame, Tally tally) {
            frame.next = 0;
            return pass(frame, tally);
        }

        public boolean fetch(Frame frame, Tally tally) {
            Marked marked = frame.code.marked;
            for (int i = 0; i < MOST_ENTRIES; i++) {
                if (marked.sort(frame.next) == PLACE_ENTRY) {
                    frame.now = frame.next;
                    frame.place = marked.number(frame.now);
                    frame.next = frame.now + 1;
                    return true;
                }
                if (!pass(frame, tally)) {
                    return false;
                }
            }
            return false;
        }

        public boolean jump(Frame frame, Tally tally) {
            frame.next = frame.code.marked.goal(frame.now);
            return true;
        }

        public boolean take(Frame frame, int handler, Tally tally) {
            frame.next = frame.code.marked.handlerMark(handler);
            return pass(frame, tally);
        }

        /** Goes over one ENTRY that is no INSTRUCTION. */
        private static boolean pass(Frame frame, Tally tally) {
            Marked marked = frame.code.marked;
            int entry = frame.next;
            frame.next = entry + 1;
            switch (marked.sort(entry)) {
                case MARK:
                    return tally.countOne();
                case MARK_CELLS:
                    return tally.countMake(frame.register(marked.number(entry)));
                case LEAD:
                    frame.next = marked.goal(entry);
                    return true;
                default:
                    return false;
            }
        }
    }

    /** From PLACE to PLACE, without MARKS: it looks itself at what is to be counted. */
    private static final class PlainPacer implements Pacer {
        public boolean enter(Frame frame, Tally tally) {
            frame.next = 0;
            return tally.countOne();
        }

        public boolean fetch(Frame frame, Tally tally) {
            Code code = frame.code;
            frame.place = frame.next;
            frame.next = frame.place + 1;
            return code.act(frame.place) != MAKE || tally.countMake(frame.register(code.first(frame.place)));
        }

        public boolean jump(Frame frame, Tally tally) {
            frame.next = frame.code.jumpPlace(frame.place);
            return !frame.code.leadsBack(frame.place) || tally.countOne();
        }

        public boolean take(Frame frame, int handler, Tally tally) {
            frame.next = frame.code.handlerPlace(handler);
            return tally.countOne();
        }
    }

    /** Runs METHODS: the FRAMES that stand, and what becomes of each INSTRUCTION. */
    private static final class Machine {
        private final Methods methods;
        private final Frame[] frames = new Frame[MOST_FRAMES];
        private final Tally tally = new Tally();
        private int depth = 0;
        private int held = 0;
        /** The number of the THROW on its way; 0 but of OWN. */
        private int number = 0;
        private int outcome = RETURNED;

        Machine(Methods methods) {
            this.methods = methods;
            for (int i = 0; i < MOST_FRAMES; i++) {
                frames[i] = new Frame(methods.codes[0]);
            }
        }

        /** Runs a METHOD, or refuses it before anything changes. */
        int go(Code code, long x, int budget, Pacer pacer) {
            if (code == null || !within(budget, 0, MOST_BUDGET)) {
                return BAD;
            }
            if (code.marked.large) {
                return LARGE;
            }
            tally.reset(budget);
            depth = 0;
            held = 0;
            outcome = GOING;
            beginFrame(code, x, pacer);
            // each turn begins an INSTRUCTION or ends the run, so that one more than may begin are enough
            for (int turn = 0; turn <= MOST_INSTRUCTIONS && outcome == GOING; turn++) {
                Frame frame = top();
                if (frame == null || !pacer.fetch(frame, tally) || !tally.beginInstruction()) {
                    stop();
                } else {
                    int kind = perform(frame, pacer);
                    if (kind != NOTHING) {
                        raise(kind, pacer);
                    }
                }
            }
            return outcome;
        }

        private Frame top() {
            return within(depth, 1, MOST_FRAMES) ? frames[depth - 1] : null;
        }

        private void stop() {
            outcome = STOPPED;
        }

        private void beginFrame(Code code, long x, Pacer pacer) {
            if (code == null || code.marked.large || depth >= MOST_FRAMES) {
                stop();
                return;
            }
            Frame frame = frames[depth];
            frame.begin(code, x);
            if (!pacer.enter(frame, tally)) {
                stop();
                return;
            }
            depth++;
            tally.mostFrames = Math.max(tally.mostFrames, depth);
        }

        /** Ends the latest FRAME, and lets its GUARDS go. */
        private void endFrame(Frame frame) {
            held -= frame.held();
            depth--;
        }

        /** Does an INSTRUCTION; the THROW that comes of it, or NOTHING. */
        private int perform(Frame frame, Pacer pacer) {
            Code code = frame.code;
            int act = code.act(frame.place);
            int r = code.first(frame.place);
            long v = code.number(frame.place);
            number = 0;
            switch (act) {
                case LOAD:
                    frame.become(r, v);
                    return NOTHING;
                case JUMP:
                    leap(frame, pacer);
                    return NOTHING;
                case JUMP_ABOVE:
                    if (frame.register(r) > 0) {
                        leap(frame, pacer);
                    }
                    return NOTHING;
                case MAKE:
                    return make(frame, (int) v, frame.register(r));
                case GET:
                case PUT:
                case IS_OF:
                case COUNT:
                    return look(frame, act);
                case CALL:
                    beginFrame(methods.at((int) v), frame.register(r), pacer);
                    return NOTHING;
                case RETURN:
                    giveBack(frame, frame.place < code.size ? frame.register(r) : 0);
                    return NOTHING;
                case THROW:
                    number = (int) frame.register(r);
                    return OWN;
                case AGAIN:
                    number = frame.caughtNumber;
                    return frame.caughtKind == NOTHING ? STATE : frame.caughtKind;
                case HOLD:
                    return hold(frame, v);
                case LET:
                    return let(frame, v);
                default:
                    return reckon(frame, act);
            }
        }

        private int reckon(Frame frame, int act) {
            int r = frame.code.first(frame.place);
            long a = frame.register(r);
            long b = frame.register(frame.code.second(frame.place));
            switch (act) {
                case ADD:
                    frame.become(r, a + b);
                    return NOTHING;
                case LESS:
                    frame.become(r, a - b);
                    return NOTHING;
                case TIMES:
                    frame.become(r, a * b);
                    return NOTHING;
                default:
                    if (b == 0) {
                        return ZERO;
                    }
                    frame.become(r, act == OVER ? a / b : a % b);
                    return NOTHING;
            }
        }

        private void leap(Frame frame, Pacer pacer) {
            if (!pacer.jump(frame, tally)) {
                stop();
            }
        }

        private int make(Frame frame, int lane, long cells) {
            int fault = frame.row.make(lane, cells);
            if (fault == NOTHING) {
                tally.rows++;
            }
            return fault;
        }

        /** What is done with a ROW that is there, or should be. */
        private int look(Frame frame, int act) {
            Row row = frame.row;
            int r = frame.code.first(frame.place);
            long index = frame.register(frame.code.second(frame.place));
            if (act == PUT) {
                return row.put(index, frame.register(r));
            }
            if (act == IS_OF) {
                return row.isOf(frame.code.number(frame.place)) ? NOTHING : CAST;
            }
            if (act == COUNT) {
                if (row.lane == NONE) {
                    return NULL;
                }
                frame.become(r, row.count);
                return NOTHING;
            }
            int fault = row.fault(index);
            if (fault == NOTHING) {
                frame.become(r, row.cell(index));
            }
            return fault;
        }

        private void giveBack(Frame frame, long value) {
            endFrame(frame);
            Frame caller = top();
            if (caller == null) {
                tally.answer = value;
                outcome = RETURNED;
            } else {
                caller.become(caller.code.first(caller.place), value);
            }
        }

        private int hold(Frame frame, long guard) {
            if (frame.hold(guard)) {
                held++;
                tally.mostHeld = Math.max(tally.mostHeld, held);
            }
            return NOTHING;
        }

        private int let(Frame frame, long guard) {
            if (!frame.let(guard)) {
                return STATE;
            }
            held--;
            return NOTHING;
        }

        /** Lets a THROW go up through the FRAMES, to the first HANDLER that would take it. */
        private void raise(int kind, Pacer pacer) {
            for (int i = 0; i < MOST_FRAMES; i++) {
                Frame frame = top();
                if (frame == null) {
                    break;
                }
                int handler = frame.code.handlerFor(frame.place, kind);
                if (handler != NONE) {
                    handOver(frame, handler, kind, pacer);
                    return;
                }
                endFrame(frame);
            }
            tally.thrown = kind;
            tally.thrownNumber = number;
            outcome = THREW;
        }

        private void handOver(Frame frame, int handler, int kind, Pacer pacer) {
            if (tally.taken >= MOST_TAKEN || !pacer.take(frame, handler, tally)) {
                stop();
                return;
            }
            tally.taken++;
            frame.caughtKind = kind;
            frame.caughtNumber = number;
        }
    }
}
