import java.util.Arrays;
import java.util.NoSuchElementException;

/** A soft controller: it reads texts, judges them, makes them to code and runs that in ticks. */
public final class SoftController {
    public static final int NONE = -1;

    private static final int TAPE_BYTES = 6000;
    private static final int BYTES_A_FEED = 20;
    private static final int IMAGE_BYTES = 64;
    private static final int MOST_TICKS = 50;
    private static final int MOST_WATCHDOG = 5000;
    private static final int FIRST_WATCHDOG = 3000;

    // What a text may have, and what may be kept, at most.
    private static final int MOST_TOKENS = 1500;
    private static final int MOST_OPEN = 24;
    private static final int MOST_LETTERS = 12;
    private static final int MOST_NAMES = 160;
    private static final int MOST_PARAMETERS = 6;
    private static final int MOST_TASKS = 8;
    private static final int MOST_OF_A_KIND = 400;
    private static final int MOST_OF_A_ROUTINE = 100;
    private static final int MOST_OF_A_ROW = 200;
    private static final int MOST_EVERY = 1000;
    private static final int MOST_CALLS = 8;
    private static final int MOST_TRACED = 16;
    private static final int MOST_EVENTS = 100;

    // No token is made to more than two steps: a for with its E's, eight tokens, is the dearest.
    private static final int MOST_STEPS = 2 * MOST_TOKENS + 200;
    private static final int MOST_LABELS = MOST_TOKENS / 2;
    private static final int MOST_WAITING = 10 * (MOST_OPEN + 1);
    private static final int NUMBERS = 5 * MOST_OF_A_KIND;
    // Nine runs within one another, each with 100 numbers, and with 13 that wait at 24 open places.
    private static final int MEMORY = NUMBERS + 4096;
    // Between two costs no step is done twice, so a run needs at most 5001 * MOST_STEPS.
    private static final int MOST_GOES = 50000000;

    // KINDS.
    private static final int BYTE = 0;
    private static final int SHORT = 1;
    private static final int WORD = 2;
    private static final int INT = 3;
    private static final int LONG = 4;
    private static final int[] BITS = {8, 16, 16, 32, 64};
    private static final int GREATEST_INT = 2147483647;

    // What a NAME is; the first five as find() and count() number them.
    private static final int VARIABLE = 0;
    private static final int INSTANCE = 1;
    private static final int TASK = 2;
    private static final int BLOCK = 3;
    private static final int FUNCTION = 4;
    private static final int PARAMETER = 5;
    private static final int LOCAL = 6;
    private static final int BUILT_IN = 7;
    private static final int UNKNOWN = 8;
    private static final int[] MOST_OF_SORT = {160, 24, 8, 8, 16};

    // How a variable is told.
    private static final int BY_VAR = 0;
    private static final int BY_KEEP = 1;
    private static final int BY_IN = 2;
    private static final int BY_OUT = 3;

    // Rows of bytes, as look() numbers them.
    private static final int FIELD_IN = 0;
    private static final int FIELD_OUT = 1;
    private static final int IMAGE_IN = 2;
    private static final int IMAGE_OUT = 3;
    private static final int MASK_IN = 4;
    private static final int MASK_OUT = 5;
    private static final int FORCED_IN = 6;
    private static final int FORCED_OUT = 7;

    // FAULTS of a text.
    private static final int NO_TOKEN = 1;
    private static final int BAD_TOKEN = 2;
    private static final int BAD_NAME = 3;
    private static final int BAD_KIND = 4;
    private static final int BAD_BOUND = 5;

    // FAULTS of a run.
    private static final int BY_ZERO = 1;
    private static final int NO_PLACE = 2;
    private static final int TOO_LONG = 3;
    private static final int TOO_DEEP = 4;
    private static final int BY_FAULT = 5;

    // Operations that work() numbers, and those that tell() does.
    private static final int PLUS = 0;
    private static final int MINUS = 1;
    private static final int DIVIDE = 3;
    private static final int MODULO = 4;
    private static final int FIRST_SHIFT = 8;
    private static final int LAST_WORK = 10;
    private static final int ROTATE_LEFT = 8;
    private static final int ROTATE_RIGHT = 9;
    private static final int ABSOLUTE = 10;
    private static final int ONES = 12;
    private static final int LEAD = 13;
    private static final int NEGATE = 14;
    private static final int INVERT = 15;
    private static final int NOT = 16;
    private static final int LAST_TELL = 16;

    // Types of tokens: keywords are numbered as WORDS has them, from 1 on; a sign's type is its bytes.
    private static final String WORDS = "var keep in out at block use func task every after byte short word int long if elif else while for switch case default break continue return fault now ";
    private static final int WORD_COUNT = 29;
    private static final int THE_END = 0;
    private static final int WORD_VAR = 1;
    private static final int WORD_KEEP = 2;
    private static final int WORD_IN = 3;
    private static final int WORD_OUT = 4;
    private static final int WORD_AT = 5;
    private static final int WORD_BLOCK = 6;
    private static final int WORD_USE = 7;
    private static final int WORD_FUNC = 8;
    private static final int WORD_TASK = 9;
    private static final int WORD_EVERY = 10;
    private static final int WORD_AFTER = 11;
    private static final int WORD_BYTE = 12;
    private static final int WORD_LONG = 16;
    private static final int WORD_IF = 17;
    private static final int WORD_ELIF = 18;
    private static final int WORD_ELSE = 19;
    private static final int WORD_WHILE = 20;
    private static final int WORD_FOR = 21;
    private static final int WORD_SWITCH = 22;
    private static final int WORD_CASE = 23;
    private static final int WORD_DEFAULT = 24;
    private static final int WORD_BREAK = 25;
    private static final int WORD_CONTINUE = 26;
    private static final int WORD_RETURN = 27;
    private static final int WORD_FAULT = 28;
    private static final int WORD_NOW = 29;
    private static final int A_NAME = 128;
    private static final int A_NUMBER = 129;
    private static final int A_CHARACTER = 130;
    private static final int BROKEN = 131;
    private static final int SURPLUS = 132;

    // Signs of more than one byte.
    private static final String SIGNS = "(){}[];,.?:=+-*/%&|^<>~!";
    private static final int TO = '.' << 8 | '.';
    private static final int OR_ELSE = '|' << 8 | '|';
    private static final int AND_THEN = '&' << 8 | '&';
    private static final int EQUAL = '=' << 8 | '=';
    private static final int UNEQUAL = '!' << 8 | '=';
    private static final int NOT_ABOVE = '<' << 8 | '=';
    private static final int NOT_BELOW = '>' << 8 | '=';
    private static final int SHIFT_LEFT = '<' << 8 | '<';
    private static final int SHIFT_RIGHT = '>' << 8 | '>';
    private static final int SHIFT_ZEROS = '>' << 16 | SHIFT_RIGHT;
    private static final int ONE_MORE = '+' << 8 | '+';
    private static final int ONE_LESS = '-' << 8 | '-';

    // What a NUMBER's tail tells of it.
    private static final int IS_WIDE = 1;
    private static final int IS_ABOVE = 2;

    // The eight functions told from the beginning, as tell() numbers them, and how many E's they take.
    private static final String BUILT_INS = "abs min max rol ror rev ones lead ";
    private static final int[] BUILT_IN_OPERATIONS = {10, 6, 7, 8, 9, 11, 12, 13};
    private static final int[] BUILT_IN_PARAMETERS = {1, 2, 2, 2, 2, 1, 1, 1};

    // Steps of code that move numbers.
    private static final int DO_NOTHING = 0;
    private static final int DO_CONSTANT = 1;
    private static final int DO_NOW = 2;
    private static final int DO_GET = 3;
    private static final int DO_GET_LOCAL = 4;
    private static final int DO_GET_IN = 5;
    private static final int DO_GET_OUT = 6;
    private static final int DO_SET = 7;
    private static final int DO_SET_LOCAL = 8;
    private static final int DO_SET_OUT = 9;
    private static final int DO_ROW = 10;
    private static final int DO_ROW_LOCAL = 11;
    private static final int DO_FETCH = 12;
    private static final int DO_FETCH_TOP = 13;
    private static final int DO_FETCH_UNDER = 14;
    private static final int DO_ASSIGN = 15;
    private static final int DO_DROP = 16;
    // Steps that reckon.
    private static final int FIRST_RECKONING = 20;
    private static final int DO_GET_BIT = 20;
    private static final int DO_SET_BIT = 21;
    private static final int DO_COMBINE = 22;
    private static final int DO_PAIR = 23;
    private static final int DO_SINGLE = 24;
    private static final int DO_CUT = 25;
    private static final int DO_TRUTH = 26;
    // Steps that go elsewhere.
    private static final int FIRST_GOING = 30;
    private static final int DO_JUMP = 30;
    private static final int DO_JUMP_ZERO = 31;
    private static final int DO_AND = 32;
    private static final int DO_OR = 33;
    private static final int DO_ABOVE = 34;
    private static final int DO_REACHED = 35;
    private static final int DO_LABELS = 36;
    private static final int DO_FUNCTION = 37;
    private static final int DO_INSTANCE = 38;
    private static final int DO_RETURN_NUMBER = 39;
    private static final int DO_RETURN = 40;
    private static final int DO_FAULT = 41;
    // Added to a step that costs 1.
    private static final int COSTS = 64;

    private final byte[] tape = new byte[TAPE_BYTES];
    private int tapeBytes;
    private final Tokens tokens;
    private final Grammar grammar;
    private final Maker maker;
    private final Images images;
    private final Machine machine;
    private final Trace tracing;
    private Program loaded;
    private Program draft;
    private int tick;
    private int watchdogNumber;

    public SoftController() {
        tokens = new Tokens(tape);
        grammar = new Grammar(tokens);
        images = new Images();
        tracing = new Trace();
        loaded = new Program();
        draft = new Program();
        maker = new Maker(tokens, draft);
        machine = new Machine(images, loaded);
        watchdogNumber = FIRST_WATCHDOG;
    }

    public boolean feed(int a, int b, int c, int d, int e) {
        if (tapeBytes + BYTES_A_FEED > TAPE_BYTES) {
            return false;
        }
        append(a);
        append(b);
        append(c);
        append(d);
        append(e);
        return true;
    }

    public boolean end(int n) {
        if (n < 0 || n > tapeBytes) {
            return false;
        }
        tapeBytes = n;
        return true;
    }

    public int load(boolean warm) {
        tokens.read(tapeBytes);
        tapeBytes = 0;
        boolean sound = true;
        try {
            grammar.check();
            maker.make(draft);
        } catch (IllegalStateException refused) {
            sound = false;
        }
        if (sound) {
            install(warm);
        }
        return tokens.fault;
    }

    public int place() {
        return tokens.faultPlace;
    }

    public int scan(int n) throws IllegalArgumentException {
        if (n < 1 || n > MOST_TICKS) {
            throw new IllegalArgumentException("not 1 .. 50 TICKS");
        }
        int begun = 0;
        for (int i = 0; i < n; i++) {
            begun += runTick();
        }
        return begun;
    }

    public void power() {
        for (int v = 0; v < loaded.ofSort(VARIABLE); v++) {
            Name name = loaded.nth(VARIABLE, v);
            if (name.how == BY_VAR) {
                machine.fill(name.at, name.size, name.first);
            }
        }
        machine.resetInstances(loaded);
        images.wipe();
        tick = 0;
        for (int t = 0; t < loaded.ofSort(TASK); t++) {
            loaded.tasks[t].stopped = false;
        }
    }

    public void input(int at, int v) throws IndexOutOfBoundsException {
        if (at < 0 || at >= IMAGE_BYTES) {
            throw new IndexOutOfBoundsException("not a byte 0 .. 63");
        }
        images.rows[FIELD_IN][at] = v & 255;
    }

    public int look(int what, int at) throws IllegalArgumentException, IndexOutOfBoundsException {
        if (what < FIELD_IN || what > FORCED_OUT) {
            throw new IllegalArgumentException("nothing to look at");
        }
        if (at < 0 || at >= IMAGE_BYTES) {
            throw new IndexOutOfBoundsException("not a byte 0 .. 63");
        }
        return images.rows[what][at];
    }

    public void force(boolean out, int at, int mask, int v) throws IndexOutOfBoundsException {
        if (at < 0 || at >= IMAGE_BYTES) {
            throw new IndexOutOfBoundsException("not a byte 0 .. 63");
        }
        images.rows[out ? MASK_OUT : MASK_IN][at] = mask & 255;
        images.rows[out ? FORCED_OUT : FORCED_IN][at] = mask & v & 255;
    }

    public void watchdog(int n) throws IllegalArgumentException {
        if (n < 1 || n > MOST_WATCHDOG) {
            throw new IllegalArgumentException("not 1 .. 5000");
        }
        watchdogNumber = n;
    }

    public boolean clear(int task) throws NoSuchElementException {
        if (!loaded.has(TASK, task)) {
            throw new NoSuchElementException("no such task");
        }
        boolean was = loaded.tasks[task].stopped;
        loaded.tasks[task].stopped = false;
        return was;
    }

    public int task(int task, int what) throws NoSuchElementException, IllegalArgumentException {
        if (!loaded.has(TASK, task)) {
            throw new NoSuchElementException("no such task");
        }
        Task asked = loaded.tasks[task];
        switch (what) {
            case 0: return asked.every;
            case 1: return asked.after;
            case 2: return asked.stopped ? 1 : 0;
            case 3: return asked.runs;
            case 4: return asked.work;
            case 5: return asked.fault;
            case 6: return asked.faultPlace;
            case 7: return asked.faultTick;
            case 8: return asked.faultNumber;
            default: throw new IllegalArgumentException("nothing to tell of a task");
        }
    }

    public long value(int variable, int i) throws NoSuchElementException {
        if (!hasPlace(variable, i)) {
            throw new NoSuchElementException("no such variable or place");
        }
        return machine.numberOf(loaded.nth(VARIABLE, variable), i);
    }

    public long poke(int variable, int i, long v) throws NoSuchElementException, UnsupportedOperationException {
        if (!hasPlace(variable, i)) {
            throw new NoSuchElementException("no such variable or place");
        }
        Name name = loaded.nth(VARIABLE, variable);
        if (name.how == BY_IN) {
            throw new UnsupportedOperationException("an in variable");
        }
        machine.change(name, i, v);
        return machine.numberOf(name, i);
    }

    public int variable(int variable, int what) throws NoSuchElementException, IllegalArgumentException {
        if (!loaded.has(VARIABLE, variable)) {
            throw new NoSuchElementException("no such variable");
        }
        Name name = loaded.nth(VARIABLE, variable);
        switch (what) {
            case 0: return name.kind;
            case 1: return name.size;
            case 2: return name.how;
            case 3: return name.row ? 1 : 0;
            case 4: return name.isPlaced() ? name.at : NONE;
            default: throw new IllegalArgumentException("nothing to tell of a variable");
        }
    }

    public long field(int instance, int k, int i) throws NoSuchElementException {
        if (!loaded.has(INSTANCE, instance)) {
            throw new NoSuchElementException("no such instance");
        }
        Name name = loaded.nth(INSTANCE, instance);
        Name local = loaded.local(loaded.name(name.block), k);
        if (local.sort == UNKNOWN || i < 0 || i >= local.size) {
            throw new NoSuchElementException("no such parameter, local or place");
        }
        return machine.numberAt(name.at + local.at + i);
    }

    public int find(int sort) throws IllegalArgumentException {
        if (sort < VARIABLE || sort > FUNCTION) {
            throw new IllegalArgumentException("no such sort");
        }
        if (!tokens.isWord(tapeBytes)) {
            return NONE;
        }
        Name name = loaded.ofText(tokens.wordHead(0, tapeBytes), tokens.wordTail(0, tapeBytes));
        return name.sort == sort ? name.number : NONE;
    }

    public boolean trace(int variable, int i, boolean on) throws NoSuchElementException, IllegalStateException {
        if (!hasPlace(variable, i)) {
            throw new NoSuchElementException("no such variable or place");
        }
        int k = tracing.indexOf(variable, i);
        if (on && k == NONE && tracing.traced >= MOST_TRACED) {
            throw new IllegalStateException("16 are traced already");
        }
        if (on == (k != NONE)) {
            return false;
        }
        if (on) {
            tracing.begin(variable, i, machine.numberOf(loaded.nth(VARIABLE, variable), i));
        } else {
            tracing.leave(k);
        }
        return true;
    }

    public long event(int k, int what) throws NoSuchElementException, IllegalArgumentException {
        if (k < 0 || k >= tracing.kept) {
            throw new NoSuchElementException("no such event");
        }
        int e = tracing.latest(k);
        switch (what) {
            case 0: return tracing.eventTicks[e];
            case 1: return tracing.eventVariables[e];
            case 2: return tracing.eventPlaces[e];
            case 3: return tracing.eventNumbers[e];
            default: throw new IllegalArgumentException("nothing to tell of an event");
        }
    }

    public int count(int what) throws IllegalArgumentException {
        switch (what) {
            case VARIABLE: case INSTANCE: case TASK: case BLOCK: case FUNCTION: return loaded.ofSort(what);
            case 5: return tick;
            case 6: return loaded.stoppedTasks();
            case 7: return tracing.traced;
            case 8: return tracing.kept;
            case 9: return tapeBytes;
            case 10: return watchdogNumber;
            default: throw new IllegalArgumentException("nothing to count");
        }
    }

    public long sum() {
        long all = 0;
        for (int v = 0; v < loaded.ofSort(VARIABLE); v++) {
            Name name = loaded.nth(VARIABLE, v);
            for (int i = 0; i < name.size; i++) {
                all = 31 * all + machine.numberOf(name, i);
            }
        }
        for (int n = 0; n < loaded.ofSort(INSTANCE); n++) {
            Name name = loaded.nth(INSTANCE, n);
            int size = loaded.name(name.block).size;
            for (int i = 0; i < size; i++) {
                all = 31 * all + machine.numberAt(name.at + i);
            }
        }
        return all;
    }

    public long cut(int kind, long v) throws IllegalArgumentException {
        if (!Numbers.isKind(kind)) {
            throw new IllegalArgumentException("no KIND");
        }
        return Numbers.cutTo(kind, v);
    }

    public long work(int op, int kind, int right, long a, long b)
            throws IllegalArgumentException, ArithmeticException {
        if (!Numbers.isKind(kind) || !Numbers.isKind(right) || op < 0 || op > LAST_WORK) {
            throw new IllegalArgumentException("no KIND or no such op");
        }
        long by = Numbers.cutTo(right, b);
        if (by == 0 && Numbers.divides(op)) {
            throw new ArithmeticException("by 0");
        }
        boolean wide = Numbers.isWide(op, kind, right);
        return Numbers.cutTo(kind, Numbers.combine(op, wide, Numbers.cutTo(kind, a), by));
    }

    public long tell(int op, int kind, int right, long a, long b) throws IllegalArgumentException {
        if (!Numbers.isKind(kind) || !Numbers.isKind(right) || op < 0 || op > LAST_TELL) {
            throw new IllegalArgumentException("no KIND or no such op");
        }
        // Comparisons, min and max come to the same in both widths; all others hang on a alone.
        return Numbers.apply(op, kind == LONG, Numbers.cutTo(kind, a), Numbers.cutTo(right, b));
    }

    private void append(int number) {
        for (int shift = 24; shift >= 0 && tapeBytes < TAPE_BYTES; shift -= 8) {
            tape[tapeBytes] = (byte) (number >> shift);
            tapeBytes++;
        }
    }

    private void install(boolean warm) {
        Program old = loaded;
        loaded = draft;
        draft = old;
        machine.install(loaded, old, warm);
        tracing.forget();
        if (!warm) {
            images.wipe();
            tick = 0;
        }
    }

    private int runTick() {
        images.takeInputs();
        int begun = 0;
        for (int t = 0; t < loaded.ofSort(TASK); t++) {
            Task task = loaded.tasks[t];
            if (!task.stopped && task.isDue(tick)) {
                machine.run(loaded, task.entry, watchdogNumber, tick);
                task.note(machine, tick);
                begun++;
            }
        }
        images.giveOutputs();
        for (int k = 0; k < tracing.traced; k++) {
            Name name = loaded.nth(VARIABLE, tracing.variables[k]);
            tracing.see(k, tick, machine.numberOf(name, tracing.places[k]));
        }
        tick++;
        return begun;
    }

    private boolean hasPlace(int variable, int i) {
        return loaded.has(VARIABLE, variable) && i >= 0 && i < loaded.nth(VARIABLE, variable).size;
    }

    /** Whole numbers of five KINDS, all carried as long. */
    private static final class Numbers {
        static boolean isKind(int kind) {
            return kind >= BYTE && kind <= LONG;
        }

        static long cutTo(int kind, long v) {
            switch (kind) {
                case BYTE: return (byte) v;
                case SHORT: return (short) v;
                case WORD: return v & 0xffff;
                case INT: return (int) v;
                default: return v;
            }
        }

        static boolean fits(int kind, long v) {
            return cutTo(kind, v) == v;
        }

        static boolean hasRoom(int from, int to) {
            return from == to || to == LONG || to == INT && from != LONG || to == SHORT && from == BYTE;
        }

        static int workedAs(int kind, int other) {
            return kind == LONG || other == LONG ? LONG : INT;
        }

        static long negative(boolean wide, long a) {
            return wide ? -a : (int) -a;
        }

        static boolean divides(int op) {
            return op == DIVIDE || op == MODULO;
        }

        static boolean isWide(int op, int kind, int right) {
            return kind == LONG || op < FIRST_SHIFT && right == LONG;
        }

        static long combine(int op, boolean wide, long a, long b) {
            long all;
            switch (op) {
                case PLUS: all = a + b; break;
                case MINUS: all = a - b; break;
                case 2: all = a * b; break;
                case DIVIDE: all = b == 0 ? 0 : a / b; break;
                case MODULO: all = b == 0 ? 0 : a % b; break;
                case 5: all = a & b; break;
                case 6: all = a | b; break;
                case 7: all = a ^ b; break;
                default: all = wide ? wideShift(op, a, b) : shift(op, (int) a, (int) b); break;
            }
            return wide ? all : (int) all;
        }

        private static long wideShift(int op, long a, long b) {
            int by = (int) b & 63;
            return op == FIRST_SHIFT ? a << by : op == LAST_WORK ? a >>> by : a >> by;
        }

        private static int shift(int op, int a, int b) {
            int by = b & 31;
            return op == FIRST_SHIFT ? a << by : op == LAST_WORK ? a >>> by : a >> by;
        }

        static long apply(int op, boolean wide, long a, long b) {
            switch (op) {
                case 0: return a == b ? 1 : 0;
                case 1: return a != b ? 1 : 0;
                case 2: return a < b ? 1 : 0;
                case 3: return a <= b ? 1 : 0;
                case 4: return a > b ? 1 : 0;
                case 5: return a >= b ? 1 : 0;
                case 6: return a <= b ? a : b;
                case 7: return a >= b ? a : b;
                case ROTATE_LEFT: return wide ? turnWide(a, (int) b) : turn((int) a, (int) b);
                case ROTATE_RIGHT: return wide ? turnWide(a, -(int) b) : turn((int) a, -(int) b);
                default: return applySingle(op, wide, a);
            }
        }

        private static long applySingle(int op, boolean wide, long a) {
            long all;
            switch (op) {
                case ABSOLUTE: all = a < 0 ? -a : a; break;
                case ONES: all = wide ? Long.bitCount(a) : Integer.bitCount((int) a); break;
                case LEAD: all = lead(wide ? 64 : 32, a); break;
                case NEGATE: all = -a; break;
                case INVERT: all = ~a; break;
                case NOT: all = a == 0 ? 1 : 0; break;
                default: all = reverse(wide ? 64 : 32, a); break;
            }
            return wide ? all : (int) all;
        }

        // Java takes the lowest bits of a shift's right side by itself, so -by is the rest of the circle.
        private static long turnWide(long a, int by) {
            return a << by | a >>> -by;
        }

        private static int turn(int a, int by) {
            return a << by | a >>> -by;
        }

        private static long lead(int bits, long a) {
            int zeros = 0;
            while (zeros < bits && (a >>> (bits - 1 - zeros) & 1) == 0) {
                zeros++;
            }
            return zeros;
        }

        private static long reverse(int bits, long a) {
            long all = 0;
            for (int i = 0; i < bits; i++) {
                all = all << 1 | a >>> i & 1;
            }
            return all;
        }
    }

    /** The tokens of a text, a place among them, and the FAULT that was found. */
    private static final class Tokens {
        private final byte[] text;
        private final int[] types = new int[MOST_TOKENS + 1];
        private final int[] places = new int[MOST_TOKENS + 1];
        private final long[] values = new long[MOST_TOKENS + 1];
        private final int[] tails = new int[MOST_TOKENS + 1];
        private final long[] words = new long[WORD_COUNT + 1];
        private int length;
        private int size;
        private int at;
        private int fault;
        private int faultPlace;

        Tokens(byte[] tape) {
            text = tape;
            faultPlace = NONE;
            int word = 1;
            for (int i = 0; i < WORDS.length() && word <= WORD_COUNT; i++) {
                char c = WORDS.charAt(i);
                if (c == ' ') {
                    word++;
                } else {
                    words[word] = words[word] << 8 | c;
                }
            }
        }

        void read(int bytes) {
            length = bytes;
            size = 0;
            at = 0;
            fault = 0;
            faultPlace = NONE;
            int from = behindGap(0);
            for (int n = 0; n < MOST_TOKENS && from < length; n++) {
                int stop = readToken(from);
                if (stop <= from) {
                    closeWith(BROKEN, from);
                    return;
                }
                size++;
                from = behindGap(stop);
            }
            if (from >= length) {
                closeWith(THE_END, length);
            } else {
                closeWith(readToken(from) > from ? SURPLUS : BROKEN, from);
            }
        }

        void rewind() {
            at = 0;
        }

        int type() {
            return types[at];
        }

        int typeAhead(int n) {
            return at + n <= size ? types[at + n] : THE_END;
        }

        boolean is(int type) {
            return types[at] == type;
        }

        boolean isKindWord() {
            return types[at] >= WORD_BYTE && types[at] <= WORD_LONG;
        }

        int here() {
            return places[at];
        }

        long head() {
            return values[at];
        }

        int tail() {
            return tails[at];
        }

        boolean isWide() {
            return (tails[at] & IS_WIDE) != 0;
        }

        void next() {
            if (at < size) {
                at++;
            }
        }

        void take(int type) {
            if (types[at] != type) {
                refuse(misfit(), places[at]);
            }
            next();
        }

        void refuseToken() {
            refuse(misfit(), places[at]);
        }

        /** The FAULT that there is if the token here can't stand here. */
        private int misfit() {
            return types[at] == BROKEN ? NO_TOKEN : BAD_TOKEN;
        }

        void refuse(int number, int where) {
            fault = number;
            faultPlace = where;
            throw new IllegalStateException("the text has a FAULT");
        }

        /** The number of the NUMBER or CHARACTER here, which is passed over. */
        long takeNumber() {
            if ((tails[at] & IS_ABOVE) != 0) {
                refuse(BAD_BOUND, places[at]);
            }
            long number = values[at];
            next();
            return number;
        }

        long takeBounded(long least, long most) {
            long number = values[at];
            if ((tails[at] & IS_ABOVE) != 0 || number < least || number > most) {
                refuse(BAD_BOUND, places[at]);
            }
            next();
            return number;
        }

        int takeKind() {
            int kind = types[at] - WORD_BYTE;
            next();
            return kind;
        }

        /** Whether the TAPE's bytes are one word: no other byte may come into a head or tail. */
        boolean isWord(int bytes) {
            length = bytes;
            if (bytes < 1 || bytes > MOST_LETTERS) {
                return false;
            }
            for (int i = 0; i < bytes; i++) {
                if (!isWordByte(byteAt(i))) {
                    return false;
                }
            }
            return true;
        }

        long wordHead(int from, int stop) {
            long head = 0;
            for (int i = from; i < stop && i < from + 8; i++) {
                head = head << 8 | byteAt(i);
            }
            return head;
        }

        int wordTail(int from, int stop) {
            int tail = 0;
            for (int i = from + 8; i < stop; i++) {
                tail = tail << 8 | byteAt(i);
            }
            return tail;
        }

        private void closeWith(int type, int where) {
            put(type, 0, 0);
            places[size] = where;
        }

        private void put(int type, long value, int tail) {
            types[size] = type;
            values[size] = value;
            tails[size] = tail;
        }

        private int byteAt(int i) {
            return i >= 0 && i < length && i < text.length ? text[i] & 255 : NONE;
        }

        private int behindGap(int from) {
            boolean note = false;
            for (int i = from; i < length; i++) {
                int c = byteAt(i);
                if (note) {
                    note = c != 10;
                } else if (c == '/' && byteAt(i + 1) == '/') {
                    note = true;
                } else if (c != 9 && c != 10 && c != 13 && c != 32) {
                    return i;
                }
            }
            return length;
        }

        /** Reads the token at from: the place behind it, or NONE if there is no token. */
        private int readToken(int from) {
            int c = byteAt(from);
            places[size] = from;
            if (c >= '0' && c <= '9') {
                return readNumber(from);
            }
            if (isWordByte(c)) {
                return readWord(from);
            }
            return c == '\'' ? readCharacter(from) : readSign(from);
        }

        private int readWord(int from) {
            int stop = from;
            while (stop < length && isWordByte(byteAt(stop))) {
                stop++;
            }
            if (stop - from > MOST_LETTERS) {
                return NONE;
            }
            long head = wordHead(from, stop);
            int tail = wordTail(from, stop);
            put(tail == 0 ? wordType(head) : A_NAME, head, tail);
            return stop;
        }

        private int wordType(long head) {
            for (int word = 1; word <= WORD_COUNT; word++) {
                if (words[word] == head) {
                    return word;
                }
            }
            return A_NAME;
        }

        private int readNumber(int from) {
            boolean hex = byteAt(from) == '0' && byteAt(from + 1) == 'x';
            int first = hex ? from + 2 : from;
            int stop = first;
            while (stop < length && digit(byteAt(stop), hex) != NONE) {
                stop++;
            }
            boolean wide = byteAt(stop) == 'L';
            int behind = wide ? stop + 1 : stop;
            int most = hex ? (wide ? 16 : 8) : (wide ? 19 : 10);
            if (stop == first || stop - first > most || isWordByte(byteAt(behind))) {
                return NONE;
            }
            int marks = wide ? IS_WIDE : 0;
            if (hex) {
                long bits = hexBits(first, stop);
                put(A_NUMBER, wide ? bits : (int) bits, marks);
                return behind;
            }
            long number = decimal(first, stop);
            boolean above = number < 0 || !wide && number > GREATEST_INT;
            put(A_NUMBER, number, above ? marks | IS_ABOVE : marks);
            return behind;
        }

        private long hexBits(int first, int stop) {
            long bits = 0;
            for (int i = first; i < stop; i++) {
                bits = bits << 4 | digit(byteAt(i), true);
            }
            return bits;
        }

        /** The value of at most 19 digits; one above the greatest long goes round to below 0. */
        private long decimal(int first, int stop) {
            long number = 0;
            for (int i = first; i < stop; i++) {
                number = 10 * number + digit(byteAt(i), false);
            }
            return number;
        }

        private int readCharacter(int from) {
            int c = byteAt(from + 1);
            if (c < 32 || c > 126 || byteAt(from + 2) != '\'') {
                return NONE;
            }
            put(A_CHARACTER, c, 0);
            return from + 3;
        }

        private int readSign(int from) {
            int c = byteAt(from);
            if (c < 0 || SIGNS.indexOf((char) c) < 0) {
                return NONE;
            }
            int sign = c;
            int bytes = 1;
            int most = mostRepeats(c);
            while (bytes < most && byteAt(from + bytes) == c) {
                sign = sign << 8 | c;
                bytes++;
            }
            if (byteAt(from + bytes) == '=' && takesEquals(c, bytes)) {
                sign = sign << 8 | '=';
                bytes++;
            }
            put(sign, 0, 0);
            return from + bytes;
        }

        private static int mostRepeats(int c) {
            switch (c) {
                case '>': return 3;
                case '<': case '+': case '-': case '&': case '|': case '=': case '.': return 2;
                default: return 1;
            }
        }

        private static boolean takesEquals(int c, int bytes) {
            switch (c) {
                case '<': case '>': return true;
                case '+': case '-': case '*': case '/': case '%': return bytes == 1;
                case '&': case '|': case '^': case '!': return bytes == 1;
                default: return false;
            }
        }

        private static int digit(int c, boolean hex) {
            if (c >= '0' && c <= '9') {
                return c - '0';
            }
            if (hex && c >= 'a' && c <= 'f') {
                return c - 'a' + 10;
            }
            return hex && c >= 'A' && c <= 'F' ? c - 'A' + 10 : NONE;
        }

        private static boolean isWordByte(int c) {
            return c >= 'a' && c <= 'z' || c >= 'A' && c <= 'Z' || c == '_' || c >= '0' && c <= '9';
        }

        /** How strongly an operator binds, from 1 on; 0: it is none. */
        static int strength(int sign) {
            switch (sign) {
                case OR_ELSE: return 1;
                case AND_THEN: return 2;
                case '|': return 3;
                case '^': return 4;
                case '&': return 5;
                case EQUAL: case UNEQUAL: return 6;
                case '<': case NOT_ABOVE: case '>': case NOT_BELOW: return 7;
                case SHIFT_LEFT: case SHIFT_RIGHT: case SHIFT_ZEROS: return 8;
                case '+': case '-': return 9;
                case '*': case '/': case '%': return 10;
                default: return 0;
            }
        }

        /** The number that work() has for an operator; NONE: it is another sign. */
        static int operation(int sign) {
            switch (sign) {
                case '+': return PLUS;
                case '-': return MINUS;
                case '*': return 2;
                case '/': return DIVIDE;
                case '%': return MODULO;
                case '&': return 5;
                case '|': return 6;
                case '^': return 7;
                case SHIFT_LEFT: return FIRST_SHIFT;
                case SHIFT_RIGHT: return 9;
                case SHIFT_ZEROS: return LAST_WORK;
                default: return NONE;
            }
        }

        /** The number that tell() has for a comparison; NONE: it is another sign. */
        static int comparison(int sign) {
            switch (sign) {
                case EQUAL: return 0;
                case UNEQUAL: return 1;
                case '<': return 2;
                case NOT_ABOVE: return 3;
                case '>': return 4;
                case NOT_BELOW: return 5;
                default: return NONE;
            }
        }

        /** The number that work() has for a sign op= ; NONE: it is another sign. */
        static int assigned(int sign) {
            return (sign & 255) == '=' ? operation(sign >> 8) : NONE;
        }
    }

    /** Goes through the tokens by the GRAMMAR alone: FAULTS 1 and 2 come ahead of all others. */
    private static final class Grammar {
        private final Tokens tokens;
        private int open;

        Grammar(Tokens read) {
            tokens = read;
        }

        void check() {
            open = 0;
            tokens.rewind();
            for (int n = 0; n <= MOST_TOKENS && !tokens.is(THE_END); n++) {
                switch (tokens.type()) {
                    case WORD_VAR: case WORD_KEEP: variables(); break;
                    case WORD_IN: case WORD_OUT: placed(); break;
                    case WORD_BLOCK: tokens.next(); routine(); break;
                    case WORD_USE: uses(); break;
                    case WORD_FUNC: tokens.next(); kind(); routine(); break;
                    case WORD_TASK: cyclic(); break;
                    default: tokens.refuseToken(); break;
                }
            }
        }

        private void kind() {
            if (!tokens.isKindWord()) {
                tokens.refuseToken();
            }
            tokens.next();
        }

        private void variables() {
            tokens.next();
            kind();
            oneVariable();
            for (int n = 0; n < MOST_TOKENS && tokens.is(','); n++) {
                tokens.next();
                oneVariable();
            }
            tokens.take(';');
        }

        private void oneVariable() {
            tokens.take(A_NAME);
            if (tokens.is('[')) {
                opens('[');
                tokens.take(A_NUMBER);
                closes(']');
            }
            if (tokens.is('=')) {
                tokens.next();
                constant();
            }
        }

        private void constant() {
            if (tokens.is('-')) {
                tokens.next();
            }
            if (!tokens.is(A_NUMBER) && !tokens.is(A_CHARACTER)) {
                tokens.refuseToken();
            }
            tokens.next();
        }

        private void placed() {
            tokens.next();
            kind();
            tokens.take(A_NAME);
            tokens.take(WORD_AT);
            tokens.take(A_NUMBER);
            tokens.take(';');
        }

        private void uses() {
            tokens.next();
            tokens.take(A_NAME);
            tokens.take(A_NAME);
            for (int n = 0; n < MOST_TOKENS && tokens.is(','); n++) {
                tokens.next();
                tokens.take(A_NAME);
            }
            tokens.take(';');
        }

        private void routine() {
            tokens.take(A_NAME);
            opens('(');
            if (!tokens.is(')')) {
                kind();
                tokens.take(A_NAME);
            }
            for (int n = 0; n < MOST_TOKENS && tokens.is(','); n++) {
                tokens.next();
                kind();
                tokens.take(A_NAME);
            }
            closes(')');
            opens('{');
            for (int n = 0; n < MOST_TOKENS && tokens.is(WORD_VAR); n++) {
                variables();
            }
            statements();
        }

        private void cyclic() {
            tokens.next();
            tokens.take(A_NAME);
            tokens.take(WORD_EVERY);
            tokens.take(A_NUMBER);
            if (tokens.is(WORD_AFTER)) {
                tokens.next();
                tokens.take(A_NUMBER);
            }
            body();
        }

        private void body() {
            opens('{');
            statements();
        }

        private void statements() {
            for (int n = 0; n < MOST_TOKENS && !tokens.is('}'); n++) {
                statement();
            }
            closes('}');
        }

        private void statement() {
            switch (tokens.type()) {
                case A_NAME: named(); break;
                case WORD_IF: choice(); break;
                case WORD_WHILE: tokens.next(); expression(); body(); break;
                case WORD_FOR: counted(); break;
                case WORD_SWITCH: cases(); break;
                case WORD_BREAK: case WORD_CONTINUE: tokens.next(); tokens.take(';'); break;
                case WORD_RETURN: returned(); break;
                case WORD_FAULT: tokens.next(); expression(); tokens.take(';'); break;
                default: tokens.refuseToken(); break;
            }
        }

        private void named() {
            tokens.next();
            if (tokens.is('(')) {
                arguments();
                tokens.take(';');
                return;
            }
            index();
            bit();
            int sign = tokens.type();
            if (sign == '=' || Tokens.assigned(sign) != NONE) {
                tokens.next();
                expression();
            } else if (sign == ONE_MORE || sign == ONE_LESS) {
                tokens.next();
            } else {
                tokens.refuseToken();
            }
            tokens.take(';');
        }

        private void choice() {
            tokens.next();
            expression();
            body();
            for (int n = 0; n < MOST_TOKENS && tokens.is(WORD_ELIF); n++) {
                tokens.next();
                expression();
                body();
            }
            if (tokens.is(WORD_ELSE)) {
                tokens.next();
                body();
            }
        }

        private void counted() {
            tokens.next();
            tokens.take(A_NAME);
            tokens.take('=');
            expression();
            tokens.take(TO);
            expression();
            body();
        }

        private void cases() {
            tokens.next();
            expression();
            opens('{');
            for (int n = 0; n < MOST_TOKENS && tokens.is(WORD_CASE); n++) {
                tokens.next();
                label();
                for (int m = 0; m < MOST_TOKENS && tokens.is(','); m++) {
                    tokens.next();
                    label();
                }
                body();
            }
            if (tokens.is(WORD_DEFAULT)) {
                tokens.next();
                body();
            }
            closes('}');
        }

        private void label() {
            constant();
            if (tokens.is(TO)) {
                tokens.next();
                constant();
            }
        }

        private void returned() {
            tokens.next();
            if (!tokens.is(';')) {
                expression();
            }
            tokens.take(';');
        }

        private void expression() {
            operand();
            for (int n = 0; n < MOST_TOKENS && Tokens.strength(tokens.type()) > 0; n++) {
                tokens.next();
                operand();
            }
            if (tokens.is('?')) {
                opens('?');
                expression();
                tokens.take(':');
                expression();
                open--;
            }
        }

        private void operand() {
            switch (tokens.type()) {
                case '-': case '~': case '!':
                    opens(tokens.type());
                    operand();
                    open--;
                    break;
                case '(': bracket(); break;
                case A_NAME: namedOperand(); break;
                case A_NUMBER: case A_CHARACTER: case WORD_NOW: tokens.next(); break;
                default: tokens.refuseToken(); break;
            }
        }

        private void bracket() {
            opens('(');
            if (tokens.isKindWord()) {
                tokens.next();
                tokens.take(')');
                operand();
                open--;
            } else {
                expression();
                closes(')');
            }
        }

        private void namedOperand() {
            tokens.next();
            if (tokens.is('(')) {
                arguments();
            } else if (tokens.is('.') && tokens.typeAhead(1) == A_NAME) {
                tokens.next();
                tokens.next();
                index();
            } else {
                index();
                bit();
            }
        }

        private void arguments() {
            opens('(');
            if (!tokens.is(')')) {
                expression();
            }
            for (int n = 0; n < MOST_TOKENS && tokens.is(','); n++) {
                tokens.next();
                expression();
            }
            closes(')');
        }

        private void index() {
            if (tokens.is('[')) {
                opens('[');
                expression();
                closes(']');
            }
        }

        private void bit() {
            if (tokens.is('.')) {
                tokens.next();
                tokens.take(A_NUMBER);
            }
        }

        private void opens(int sign) {
            if (!tokens.is(sign) || open >= MOST_OPEN) {
                tokens.refuseToken();
            }
            open++;
            tokens.next();
        }

        private void closes(int sign) {
            tokens.take(sign);
            open--;
        }
    }

    /** What a text tells by a NAME. Parameters and locals follow their block or function directly. */
    private static final class Name {
        private long head;
        private int tail;
        private int sort = UNKNOWN;
        private int index = NONE;
        private int number;
        private int kind;
        private int how;
        private int size;
        private boolean row;
        private int at;
        private long first;
        private int parameters;
        private int locals;
        private int entry;
        private int block = NONE;

        void become(int what, long wordHead, int wordTail) {
            head = wordHead;
            tail = wordTail;
            sort = what;
            number = 0;
            kind = INT;
            how = BY_VAR;
            size = 0;
            row = false;
            at = 0;
            first = 0;
            parameters = 0;
            locals = 0;
            entry = 0;
            block = NONE;
        }

        boolean isLocal() {
            return sort == PARAMETER || sort == LOCAL;
        }

        boolean hasNumbers() {
            return sort == VARIABLE || isLocal();
        }

        boolean isPlaced() {
            return sort == VARIABLE && (how == BY_IN || how == BY_OUT);
        }

        boolean isInput() {
            return sort == VARIABLE && how == BY_IN;
        }
    }

    /** A task, and what became of its runs since it was loaded. */
    private static final class Task {
        private int every;
        private int after;
        private int entry;
        private boolean stopped;
        private int runs;
        private int work;
        private int fault;
        private int faultPlace;
        private int faultTick;
        private int faultNumber;

        void become(int cycle, int offset, int step) {
            every = cycle;
            after = offset;
            entry = step;
            stopped = false;
            runs = 0;
            work = 0;
            fault = 0;
            faultPlace = 0;
            faultTick = 0;
            faultNumber = 0;
        }

        boolean isDue(int tick) {
            return every > 0 && Math.floorMod(tick, every) == after;
        }

        void note(Machine ran, int tick) {
            runs++;
            work = ran.work;
            if (ran.fault != 0) {
                stopped = true;
                fault = ran.fault;
                faultPlace = ran.faultPlace;
                faultTick = tick;
                faultNumber = ran.faultNumber;
            }
        }
    }

    /** What a text was made to: its NAMES, its tasks and its code. */
    private static final class Program {
        private final Name[] names = new Name[MOST_NAMES];
        private final Name[] builtIns = new Name[BUILT_IN_OPERATIONS.length];
        private final Name unknown = new Name();
        private final int[][] sorted = new int[FUNCTION + 1][MOST_NAMES];
        private final int[] sorts = new int[FUNCTION + 1];
        private final Task[] tasks = new Task[MOST_TASKS];
        private final int[] operations = new int[MOST_STEPS];
        private final int[] firsts = new int[MOST_STEPS];
        private final int[] seconds = new int[MOST_STEPS];
        private final int[] places = new int[MOST_STEPS];
        private final long[] lows = new long[MOST_LABELS];
        private final long[] highs = new long[MOST_LABELS];
        private int told;
        private int steps;
        private int labels;
        private int owner;

        Program() {
            for (int i = 0; i < MOST_NAMES; i++) {
                names[i] = new Name();
            }
            for (int t = 0; t < MOST_TASKS; t++) {
                tasks[t] = new Task();
            }
            int letter = 0;
            for (int i = 0; i < builtIns.length; i++) {
                long head = 0;
                for (; letter < BUILT_INS.length() && BUILT_INS.charAt(letter) != ' '; letter++) {
                    head = head << 8 | BUILT_INS.charAt(letter);
                }
                letter++;
                builtIns[i] = new Name();
                builtIns[i].become(BUILT_IN, head, 0);
                builtIns[i].number = BUILT_IN_OPERATIONS[i];
                builtIns[i].parameters = BUILT_IN_PARAMETERS[i];
            }
            owner = NONE;
        }

        void empty() {
            told = 0;
            steps = 0;
            labels = 0;
            owner = NONE;
            Arrays.fill(sorts, 0);
        }

        int ofSort(int sort) {
            return sorts[sort];
        }

        boolean has(int sort, int number) {
            return number >= 0 && number < sorts[sort];
        }

        Name nth(int sort, int number) {
            return has(sort, number) ? name(sorted[sort][number]) : unknown;
        }

        Name name(int index) {
            return index >= 0 && index < told ? names[index] : unknown;
        }

        Name local(Name routine, int k) {
            return k >= 0 && k < routine.locals ? name(routine.index + 1 + k) : unknown;
        }

        Name localCalled(Name routine, long head, int tail) {
            int first = routine.index + 1;
            for (int i = first; i < first + routine.locals && i < told; i++) {
                if (names[i].head == head && names[i].tail == tail) {
                    return names[i];
                }
            }
            return unknown;
        }

        /** What the text tells by a NAME, or one of the eight, which are told from the beginning. */
        Name ofText(long head, int tail) {
            for (int i = 0; i < told; i++) {
                Name name = names[i];
                if (name.head == head && name.tail == tail && name.sort <= FUNCTION) {
                    return name;
                }
            }
            for (int i = 0; i < builtIns.length && tail == 0; i++) {
                if (builtIns[i].head == head) {
                    return builtIns[i];
                }
            }
            return unknown;
        }

        boolean hasRoomFor(int sort) {
            if (told >= MOST_NAMES) {
                return false;
            }
            if (sort == PARAMETER) {
                return name(owner).parameters < MOST_PARAMETERS;
            }
            return sort > FUNCTION || sorts[sort] < MOST_OF_SORT[sort];
        }

        Name add(int sort, long head, int tail) {
            if (told >= MOST_NAMES) {
                return unknown;
            }
            Name name = names[told];
            name.become(sort, head, tail);
            name.index = told;
            if (sort <= FUNCTION) {
                name.number = sorts[sort];
                sorted[sort][name.number] = told;
                sorts[sort]++;
            }
            told++;
            return name;
        }

        int stoppedTasks() {
            int stopped = 0;
            for (int t = 0; t < sorts[TASK]; t++) {
                stopped += tasks[t].stopped ? 1 : 0;
            }
            return stopped;
        }

        int step(int operation, int first, int second, int place) {
            if (steps >= MOST_STEPS) {
                return NONE;
            }
            operations[steps] = operation;
            firsts[steps] = first;
            seconds[steps] = second;
            places[steps] = place;
            steps++;
            return steps - 1;
        }

        void cost(int place) {
            step(DO_NOTHING + COSTS, 0, 0, place);
        }

        void constant(long number, int costs, int place) {
            step(DO_CONSTANT + costs, (int) (number >> 32), (int) number, place);
        }

        /** Steps that go to one place not yet known are a chain: each has the one ahead of it. */
        void land(int chain) {
            int step = chain;
            for (int n = 0; n < MOST_STEPS && step >= 0 && step < steps; n++) {
                int ahead = firsts[step];
                firsts[step] = steps;
                step = ahead;
            }
        }

        void label(long low, long high) {
            if (labels < MOST_LABELS) {
                lows[labels] = low;
                highs[labels] = high;
                labels++;
            }
        }

        boolean liesIn(long number, int first, int count) {
            for (int i = first; i < first + count && i >= 0 && i < labels; i++) {
                if (number >= lows[i] && number <= highs[i]) {
                    return true;
                }
            }
            return false;
        }
    }

    /** Judges E's and makes them to code. The GRAMMAR has been checked, so its signs are passed over. */
    private static final class Terms {
        private final Tokens tokens;
        private final int[] signs = new int[MOST_WAITING];
        private final int[] signPlaces = new int[MOST_WAITING];
        private final int[] leftKinds = new int[MOST_WAITING];
        private final int[] jumps = new int[MOST_WAITING];
        private int waiting;
        private Program program;
        private boolean isConst;
        private long constNumber;

        Terms(Tokens read, Program any) {
            tokens = read;
            program = any;
        }

        void begin(Program draft) {
            program = draft;
            waiting = 0;
        }

        /** What the NAME here means: a parameter or local hides what the text tells. */
        Name known() {
            long head = tokens.head();
            int tail = tokens.tail();
            Name local = program.localCalled(program.name(program.owner), head, tail);
            return local.sort != UNKNOWN ? local : program.ofText(head, tail);
        }

        /** The variable, parameter or local of a Place; on the left it can't be an in variable. */
        Name placeName(boolean onLeft) {
            Name name = known();
            if (!name.hasNumbers()) {
                tokens.refuse(BAD_NAME, tokens.here());
            }
            if (name.row != (tokens.typeAhead(1) == '[') || onLeft && name.isInput()) {
                tokens.refuse(BAD_KIND, tokens.here());
            }
            return name;
        }

        boolean isTooWide(int from, int to) {
            return !Numbers.hasRoom(from, to) && !(isConst && Numbers.fits(to, constNumber));
        }

        /** Makes an E to code and tells its KIND; isConst and constNumber are about it then. */
        int expression() {
            int kind = operators();
            if (!tokens.is('?')) {
                return kind;
            }
            int place = tokens.here();
            int other = program.step(DO_JUMP_ZERO + COSTS, NONE, 0, place);
            tokens.next();
            int one = expression();
            int over = program.step(DO_JUMP, NONE, 0, place);
            program.land(other);
            tokens.next();
            int two = expression();
            program.land(over);
            isConst = false;
            return Numbers.workedAs(one, two);
        }

        // Operators wait here until their right side is through, not in calls: the depth stays low.
        private int operators() {
            int base = waiting;
            int kind = operand();
            int strength = Tokens.strength(tokens.type());
            for (int n = 0; n < MOST_TOKENS && strength > 0; n++) {
                kind = settle(base, strength, kind);
                defer(kind);
                kind = operand();
                isConst = false;
                strength = Tokens.strength(tokens.type());
            }
            return settle(base, 0, kind);
        }

        /** Puts the operator here by, behind its left side of a KIND. */
        private void defer(int kind) {
            int sign = tokens.type();
            int place = tokens.here();
            int does = sign == AND_THEN ? DO_AND : sign == OR_ELSE ? DO_OR : DO_NOTHING;
            int jump = program.step(does + COSTS, NONE, 0, place);
            if (waiting < MOST_WAITING) {
                signs[waiting] = sign;
                signPlaces[waiting] = place;
                leftKinds[waiting] = kind;
                jumps[waiting] = jump;
                waiting++;
            }
            tokens.next();
        }

        /** Works the operators that wait and are not weaker; the KIND of what they come to. */
        private int settle(int base, int strength, int kind) {
            int all = kind;
            while (waiting > base && Tokens.strength(signs[waiting - 1]) >= strength) {
                waiting--;
                int sign = signs[waiting];
                int place = signPlaces[waiting];
                int comparison = Tokens.comparison(sign);
                if (sign == AND_THEN || sign == OR_ELSE) {
                    program.step(DO_TRUTH, 0, 0, place);
                    program.land(jumps[waiting]);
                    all = INT;
                } else if (comparison != NONE) {
                    program.step(DO_PAIR, comparison, 0, place);
                    all = INT;
                } else {
                    all = combine(Tokens.operation(sign), leftKinds[waiting], all, place);
                }
            }
            return all;
        }

        /** The KIND that left op right is WORKED as. */
        int combine(int operation, int left, int right, int place) {
            boolean wide = Numbers.isWide(operation, left, right);
            program.step(DO_COMBINE, operation, wide ? 1 : 0, place);
            return wide ? LONG : INT;
        }

        private int operand() {
            int place = tokens.here();
            switch (tokens.type()) {
                case '-': case '~': case '!': return signed(place);
                case '(': return bracket(place);
                case A_NUMBER: case A_CHARACTER: return number(place);
                case WORD_NOW:
                    program.step(DO_NOW + COSTS, 0, 0, place);
                    tokens.next();
                    isConst = false;
                    return INT;
                default: return named(place);
            }
        }

        private int number(int place) {
            int kind = tokens.isWide() ? LONG : INT;
            constNumber = tokens.takeNumber();
            isConst = true;
            program.constant(constNumber, COSTS, place);
            return kind;
        }

        private int signed(int place) {
            int sign = tokens.type();
            program.cost(place);
            tokens.next();
            boolean ofNumber = tokens.is(A_NUMBER) || tokens.is(A_CHARACTER);
            int kind = Numbers.workedAs(operand(), INT);
            int operation = sign == '-' ? NEGATE : sign == '~' ? INVERT : NOT;
            program.step(DO_SINGLE, operation, kind == LONG ? 1 : 0, place);
            isConst = sign == '-' && ofNumber;
            constNumber = Numbers.negative(kind == LONG, constNumber);
            return sign == '!' ? INT : kind;
        }

        private int bracket(int place) {
            tokens.next();
            if (!tokens.isKindWord()) {
                int inner = expression();
                tokens.next();
                return inner;
            }
            int kind = tokens.takeKind();
            tokens.next();
            program.cost(place);
            operand();
            program.step(DO_CUT, kind, 0, place);
            isConst = false;
            return kind;
        }

        private int named(int place) {
            int kind;
            if (tokens.typeAhead(1) == '(') {
                kind = called(place);
            } else if (tokens.typeAhead(1) == '.' && tokens.typeAhead(2) == A_NAME) {
                kind = ofInstance(place);
            } else {
                kind = ofPlace(place);
            }
            isConst = false;
            return kind;
        }

        private int ofPlace(int place) {
            Name name = placeName(false);
            tokens.next();
            if (name.row) {
                program.cost(place);
                index(name, place);
                program.step(DO_FETCH, 0, 0, place);
            } else {
                get(name, COSTS, place);
            }
            if (!tokens.is('.')) {
                return name.kind;
            }
            program.step(DO_GET_BIT, bit(name.kind), 0, place);
            return INT;
        }

        private int ofInstance(int place) {
            Name instance = known();
            if (instance.sort != INSTANCE) {
                tokens.refuse(BAD_NAME, place);
            }
            tokens.next();
            tokens.next();
            int behind = tokens.here();
            Name local = program.localCalled(program.name(instance.block), tokens.head(), tokens.tail());
            if (local.sort == UNKNOWN) {
                tokens.refuse(BAD_NAME, behind);
            }
            if (local.row != (tokens.typeAhead(1) == '[')) {
                tokens.refuse(BAD_KIND, behind);
            }
            tokens.next();
            int address = instance.at + local.at;
            if (local.row) {
                program.cost(behind);
                indexNumber();
                program.step(DO_ROW, address, local.size, behind);
                program.step(DO_FETCH, 0, 0, behind);
            } else {
                program.step(DO_GET + COSTS, address, 0, behind);
            }
            return local.kind;
        }

        private int called(int place) {
            Name name = known();
            if (name.sort != FUNCTION && name.sort != BUILT_IN) {
                tokens.refuse(BAD_NAME, place);
            }
            program.cost(place);
            if (name.sort == BUILT_IN) {
                return builtIn(name, place);
            }
            arguments(name, NONE, place);
            program.step(DO_FUNCTION, name.index, 0, place);
            return name.kind;
        }

        private int builtIn(Name name, int place) {
            tokens.next();
            tokens.next();
            int first = INT;
            int both = INT;
            int given = 0;
            for (; given < MOST_TOKENS && !tokens.is(')'); given++) {
                if (given > 0) {
                    tokens.next();
                }
                int kind = expression();
                first = given == 0 ? kind : first;
                both = Numbers.workedAs(both, kind);
            }
            tokens.next();
            if (given != name.parameters) {
                tokens.refuse(BAD_KIND, place);
            }
            boolean turns = name.number == ROTATE_LEFT || name.number == ROTATE_RIGHT;
            int kind = turns ? Numbers.workedAs(first, INT) : both;
            int does = name.parameters == 2 ? DO_PAIR : DO_SINGLE;
            program.step(does, name.number, kind == LONG ? 1 : 0, place);
            return name.number == ONES || name.number == LEAD ? INT : kind;
        }

        /** The E's of a call, from its NAME on; an instance's parameters (from an address on) have them. */
        void arguments(Name routine, int address, int place) {
            tokens.next();
            tokens.next();
            int given = 0;
            for (; given < MOST_TOKENS && !tokens.is(')'); given++) {
                if (given > 0) {
                    tokens.next();
                }
                int first = tokens.here();
                int kind = expression();
                Name parameter = program.local(routine, given);
                if (parameter.sort == PARAMETER && isTooWide(kind, parameter.kind)) {
                    tokens.refuse(BAD_KIND, first);
                }
                if (parameter.sort == PARAMETER && address != NONE) {
                    program.step(DO_SET, address + parameter.at, parameter.kind, first);
                }
            }
            tokens.next();
            if (given != routine.parameters) {
                tokens.refuse(BAD_KIND, place);
            }
        }

        /** [ E ] behind a row's NAME: where its number is. */
        void index(Name name, int place) {
            indexNumber();
            program.step(name.isLocal() ? DO_ROW_LOCAL : DO_ROW, name.at, name.size, place);
        }

        private void indexNumber() {
            tokens.next();
            int first = tokens.here();
            if (expression() == LONG) {
                tokens.refuse(BAD_KIND, first);
            }
            tokens.next();
        }

        /** . NUMBER behind a Place of a KIND. */
        int bit(int kind) {
            tokens.next();
            return (int) tokens.takeBounded(0, BITS[kind] - 1);
        }

        void get(Name name, int costs, int place) {
            int does = name.isLocal() ? DO_GET_LOCAL : DO_GET;
            if (name.isPlaced()) {
                does = name.isInput() ? DO_GET_IN : DO_GET_OUT;
            }
            program.step(does + costs, name.at, name.kind, place);
        }

        void set(Name name, int place) {
            int does = name.isLocal() ? DO_SET_LOCAL : name.isPlaced() ? DO_SET_OUT : DO_SET;
            program.step(does, name.at, name.kind, place);
        }
    }

    /** Judges Items and Stats and makes them to code: FAULTS 3 to 5. */
    private static final class Maker {
        private final Tokens tokens;
        private final Terms terms;
        private final int[] numbers = new int[LONG + 1];
        private Program program;
        private int address;
        private int loops;
        private int breaks;
        private int continues;

        Maker(Tokens read, Program any) {
            tokens = read;
            program = any;
            terms = new Terms(read, any);
        }

        void make(Program draft) {
            program = draft;
            program.empty();
            terms.begin(draft);
            Arrays.fill(numbers, 0);
            address = 0;
            loops = 0;
            breaks = NONE;
            continues = NONE;
            tokens.rewind();
            for (int n = 0; n <= MOST_TOKENS && !tokens.is(THE_END); n++) {
                int word = tokens.type();
                tokens.next();
                switch (word) {
                    case WORD_VAR: variables(VARIABLE, BY_VAR); break;
                    case WORD_KEEP: variables(VARIABLE, BY_KEEP); break;
                    case WORD_IN: placed(BY_IN); break;
                    case WORD_OUT: placed(BY_OUT); break;
                    case WORD_BLOCK: routine(BLOCK, INT); break;
                    case WORD_USE: uses(); break;
                    case WORD_FUNC: routine(FUNCTION, tokens.takeKind()); break;
                    default: cyclic(); break;
                }
            }
        }

        /** Tells the NAME here, which is passed over. */
        private Name newName(int sort) {
            int place = tokens.here();
            long head = tokens.head();
            int tail = tokens.tail();
            Name same = sort <= FUNCTION ? program.ofText(head, tail)
                    : program.localCalled(program.name(program.owner), head, tail);
            if (same.sort != UNKNOWN) {
                tokens.refuse(BAD_NAME, place);
            }
            if (!program.hasRoomFor(sort)) {
                tokens.refuse(BAD_BOUND, place);
            }
            tokens.next();
            return program.add(sort, head, tail);
        }

        private void variables(int sort, int how) {
            int kind = tokens.takeKind();
            oneVariable(sort, how, kind);
            for (int n = 0; n < MOST_TOKENS && tokens.is(','); n++) {
                tokens.next();
                oneVariable(sort, how, kind);
            }
            tokens.next();
        }

        private void oneVariable(int sort, int how, int kind) {
            int place = tokens.here();
            Name name = newName(sort);
            name.how = how;
            name.kind = kind;
            name.size = 1;
            if (tokens.is('[')) {
                tokens.next();
                name.row = true;
                name.size = (int) tokens.takeBounded(1, MOST_OF_A_ROW);
                tokens.next();
            }
            if (tokens.is('=')) {
                tokens.next();
                name.first = constant(kind);
            }
            if (sort == VARIABLE) {
                name.at = address;
                allot(kind, name.size, place);
            } else {
                join(name, place);
            }
        }

        private long constant(int kind) {
            boolean minus = tokens.is('-');
            if (minus) {
                tokens.next();
            }
            int place = tokens.here();
            boolean wide = tokens.isWide();
            long number = tokens.takeNumber();
            if (minus) {
                number = Numbers.negative(wide, number);
            }
            if (!Numbers.fits(kind, number)) {
                tokens.refuse(BAD_BOUND, place);
            }
            return number;
        }

        private void allot(int kind, int size, int place) {
            numbers[kind] += size;
            address += size;
            if (numbers[kind] > MOST_OF_A_KIND) {
                tokens.refuse(BAD_BOUND, place);
            }
        }

        /** A parameter or local joins its block or function. */
        private void join(Name name, int place) {
            Name routine = program.name(program.owner);
            name.at = routine.size;
            routine.size += name.size;
            routine.locals++;
            routine.parameters += name.sort == PARAMETER ? 1 : 0;
            if (routine.size > MOST_OF_A_ROUTINE) {
                tokens.refuse(BAD_BOUND, place);
            }
        }

        private void placed(int how) {
            int kind = tokens.takeKind();
            Name name = newName(VARIABLE);
            name.how = how;
            name.kind = kind;
            name.size = 1;
            tokens.next();
            name.at = (int) tokens.takeBounded(0, IMAGE_BYTES - BITS[kind] / 8);
            tokens.next();
        }

        private void uses() {
            Name block = terms.known();
            if (block.sort != BLOCK) {
                tokens.refuse(BAD_NAME, tokens.here());
            }
            tokens.next();
            oneUse(block);
            for (int n = 0; n < MOST_TOKENS && tokens.is(','); n++) {
                tokens.next();
                oneUse(block);
            }
            tokens.next();
        }

        private void oneUse(Name block) {
            int place = tokens.here();
            Name name = newName(INSTANCE);
            name.block = block.index;
            name.at = address;
            for (int k = 0; k < block.locals; k++) {
                Name local = program.local(block, k);
                allot(local.kind, local.size, place);
            }
        }

        private void routine(int sort, int kind) {
            Name name = newName(sort);
            name.kind = kind;
            program.owner = name.index;
            tokens.next();
            for (int n = 0; n < MOST_TOKENS && !tokens.is(')'); n++) {
                parameter();
            }
            tokens.next();
            tokens.next();
            for (int n = 0; n < MOST_TOKENS && tokens.is(WORD_VAR); n++) {
                tokens.next();
                variables(LOCAL, BY_VAR);
            }
            name.entry = program.steps;
            int end = statements();
            if (sort == FUNCTION) {
                program.constant(0, 0, end);
                program.step(DO_RETURN_NUMBER, kind, 0, end);
            } else {
                program.step(DO_RETURN, 0, 0, end);
            }
            program.owner = NONE;
        }

        private void parameter() {
            if (tokens.is(',')) {
                tokens.next();
            }
            int kind = tokens.takeKind();
            int place = tokens.here();
            Name name = newName(PARAMETER);
            name.kind = kind;
            name.size = 1;
            join(name, place);
        }

        private void cyclic() {
            Name name = newName(TASK);
            tokens.next();
            int every = (int) tokens.takeBounded(1, MOST_EVERY);
            int after = 0;
            if (tokens.is(WORD_AFTER)) {
                tokens.next();
                after = (int) tokens.takeBounded(0, every - 1);
            }
            if (name.number < MOST_TASKS) {
                program.tasks[name.number].become(every, after, program.steps);
            }
            tokens.next();
            program.step(DO_RETURN, 0, 0, statements());
        }

        private void body() {
            tokens.next();
            statements();
        }

        /** Stats up to the } ; the place of that. */
        private int statements() {
            for (int n = 0; n < MOST_TOKENS && !tokens.is('}'); n++) {
                statement();
            }
            int end = tokens.here();
            tokens.next();
            return end;
        }

        private void statement() {
            int place = tokens.here();
            program.cost(place);
            switch (tokens.type()) {
                case WORD_IF: choice(place); break;
                case WORD_WHILE: loop(place); break;
                case WORD_FOR: counted(place); break;
                case WORD_SWITCH: cases(place); break;
                case WORD_BREAK: case WORD_CONTINUE: leave(place); break;
                case WORD_RETURN: returned(place); break;
                case WORD_FAULT:
                    tokens.next();
                    terms.expression();
                    program.step(DO_FAULT, 0, 0, place);
                    tokens.next();
                    break;
                default:
                    if (tokens.typeAhead(1) == '(') {
                        instanceCall(place);
                    } else {
                        assignment(place);
                    }
                    break;
            }
        }

        private void instanceCall(int place) {
            Name instance = terms.known();
            if (instance.sort != INSTANCE) {
                tokens.refuse(BAD_NAME, place);
            }
            program.cost(place);
            terms.arguments(program.name(instance.block), instance.at, place);
            program.step(DO_INSTANCE, instance.index, 0, place);
            tokens.next();
        }

        private void assignment(int place) {
            Name name = terms.placeName(true);
            tokens.next();
            if (name.row) {
                terms.index(name, place);
            }
            if (tokens.is('.')) {
                int bit = terms.bit(name.kind);
                setBit(name, bit, place);
            } else if (tokens.is('=')) {
                setPlain(name);
                put(name, place);
            } else {
                change(name, place);
                put(name, place);
            }
            tokens.next();
        }

        private void setBit(Name name, int bit, int place) {
            if (!tokens.is('=')) {
                tokens.refuse(BAD_KIND, tokens.here());
            }
            tokens.next();
            terms.expression();
            if (name.row) {
                program.step(DO_FETCH_UNDER, 0, 0, place);
            } else {
                terms.get(name, 0, place);
            }
            program.step(DO_SET_BIT, bit, 0, place);
            put(name, place);
        }

        private void setPlain(Name name) {
            int sign = tokens.here();
            tokens.next();
            int kind = terms.expression();
            if (terms.isTooWide(kind, name.kind)) {
                tokens.refuse(BAD_KIND, sign);
            }
        }

        private void change(Name name, int place) {
            int type = tokens.type();
            int sign = tokens.here();
            if (name.row) {
                program.step(DO_FETCH_TOP, 0, 0, place);
            } else {
                terms.get(name, 0, place);
            }
            tokens.next();
            if (type == ONE_MORE || type == ONE_LESS) {
                program.constant(1, 0, sign);
                terms.combine(type == ONE_MORE ? PLUS : MINUS, name.kind, INT, sign);
            } else {
                int right = terms.expression();
                terms.combine(Tokens.assigned(type), name.kind, right, sign);
            }
        }

        private void put(Name name, int place) {
            if (name.row) {
                program.step(DO_ASSIGN, 0, name.kind, place);
            } else {
                terms.set(name, place);
            }
        }

        private void choice(int place) {
            int ends = NONE;
            boolean more = true;
            for (int n = 0; n < MOST_TOKENS && more; n++) {
                tokens.next();
                terms.expression();
                int other = program.step(DO_JUMP_ZERO, NONE, 0, place);
                body();
                ends = program.step(DO_JUMP, ends, 0, place);
                program.land(other);
                more = tokens.is(WORD_ELIF);
            }
            if (tokens.is(WORD_ELSE)) {
                tokens.next();
                body();
            }
            program.land(ends);
        }

        private void loop(int place) {
            tokens.next();
            int top = program.steps;
            terms.expression();
            int outerBreaks = breaks;
            breaks = program.step(DO_JUMP_ZERO, NONE, 0, place);
            round(place);
            program.step(DO_JUMP, top, 0, place);
            program.land(breaks);
            breaks = outerBreaks;
        }

        /** A loop's Body, with the cost of the round; what continues lands behind it. */
        private void round(int place) {
            int outer = continues;
            continues = NONE;
            loops++;
            program.cost(place);
            body();
            loops--;
            program.land(continues);
            continues = outer;
        }

        private void counted(int place) {
            tokens.next();
            int at = tokens.here();
            Name name = terms.known();
            if (name.sort == UNKNOWN) {
                tokens.refuse(BAD_NAME, at);
            }
            if (!name.hasNumbers() || name.row || name.isInput()) {
                tokens.refuse(BAD_KIND, at);
            }
            tokens.next();
            setPlain(name);
            terms.set(name, at);
            tokens.next();
            terms.expression();
            int top = program.steps;
            terms.get(name, 0, at);
            int outerBreaks = breaks;
            breaks = program.step(DO_ABOVE, NONE, 0, place);
            round(place);
            terms.get(name, 0, at);
            breaks = program.step(DO_REACHED, breaks, 0, place);
            terms.get(name, 0, at);
            program.constant(1, 0, at);
            terms.combine(PLUS, name.kind, INT, at);
            terms.set(name, at);
            program.step(DO_JUMP, top, 0, place);
            program.land(breaks);
            breaks = outerBreaks;
            program.step(DO_DROP, 0, 0, place);
        }

        private void cases(int place) {
            tokens.next();
            terms.expression();
            tokens.next();
            int ends = NONE;
            for (int n = 0; n < MOST_TOKENS && tokens.is(WORD_CASE); n++) {
                int first = program.labels;
                labels();
                program.step(DO_LABELS, first, program.labels - first, place);
                int other = program.step(DO_JUMP, NONE, 0, place);
                program.step(DO_DROP, 0, 0, place);
                body();
                ends = program.step(DO_JUMP, ends, 0, place);
                program.land(other);
            }
            program.step(DO_DROP, 0, 0, place);
            if (tokens.is(WORD_DEFAULT)) {
                tokens.next();
                body();
            }
            tokens.next();
            program.land(ends);
        }

        /** The Labels behind a case, up to the { of its Body. */
        private void labels() {
            for (int n = 0; n < MOST_TOKENS && !tokens.is('{'); n++) {
                tokens.next();
                long low = constant(LONG);
                long high = low;
                if (tokens.is(TO)) {
                    tokens.next();
                    int second = tokens.here();
                    high = constant(LONG);
                    if (low > high) {
                        tokens.refuse(BAD_BOUND, second);
                    }
                }
                program.label(low, high);
            }
        }

        private void leave(int place) {
            if (loops == 0) {
                tokens.refuse(BAD_NAME, place);
            }
            if (tokens.is(WORD_BREAK)) {
                breaks = program.step(DO_JUMP, breaks, 0, place);
            } else {
                continues = program.step(DO_JUMP, continues, 0, place);
            }
            tokens.next();
            tokens.next();
        }

        private void returned(int place) {
            boolean withNumber = tokens.typeAhead(1) != ';';
            Name routine = program.name(program.owner);
            if (withNumber != (routine.sort == FUNCTION)) {
                tokens.refuse(BAD_NAME, place);
            }
            tokens.next();
            if (withNumber) {
                int first = tokens.here();
                int kind = terms.expression();
                if (terms.isTooWide(kind, routine.kind)) {
                    tokens.refuse(BAD_KIND, first);
                }
                program.step(DO_RETURN_NUMBER, routine.kind, 0, place);
            } else {
                program.step(DO_RETURN, 0, 0, place);
            }
            tokens.next();
        }
    }

    /** Bytes of the FIELD and of the IMAGES, and which bits are forced as what. */
    private static final class Images {
        private final int[][] rows = new int[FORCED_OUT + 1][IMAGE_BYTES];

        void takeInputs() {
            for (int i = 0; i < IMAGE_BYTES; i++) {
                int free = rows[FIELD_IN][i] & ~rows[MASK_IN][i];
                rows[IMAGE_IN][i] = free | rows[FORCED_IN][i];
            }
        }

        void giveOutputs() {
            for (int i = 0; i < IMAGE_BYTES; i++) {
                int free = rows[IMAGE_OUT][i] & ~rows[MASK_OUT][i];
                rows[IMAGE_OUT][i] = free | rows[FORCED_OUT][i];
                rows[FIELD_OUT][i] = rows[IMAGE_OUT][i];
            }
        }

        void wipe() {
            Arrays.fill(rows[IMAGE_IN], 0);
            Arrays.fill(rows[IMAGE_OUT], 0);
        }

        long get(int row, int at, int kind) {
            long number = 0;
            for (int i = at; i < at + BITS[kind] / 8 && i >= 0 && i < IMAGE_BYTES; i++) {
                number = number << 8 | rows[row][i];
            }
            return Numbers.cutTo(kind, number);
        }

        void set(int at, int kind, long v) {
            int shift = BITS[kind] - 8;
            for (int i = at; shift >= 0 && i >= 0 && i < IMAGE_BYTES; i++) {
                rows[IMAGE_OUT][i] = (int) (v >> shift) & 255;
                shift -= 8;
            }
        }
    }

    /** Holds the numbers of variables and instances, and does the steps of code. */
    private static final class Machine {
        // The numbers come first; behind them lie functions' numbers and those that wait.
        private final long[] memory = new long[MEMORY];
        private final long[] oldNumbers = new long[NUMBERS];
        private final Images images;
        private final int[] backSteps = new int[MOST_CALLS];
        private final int[] backFrames = new int[MOST_CALLS];
        private final int[] backTops = new int[MOST_CALLS];
        private Program program;
        private int top;
        private int frame;
        private int step;
        private int depth;
        private int tick;
        private int most;
        private int work;
        private boolean running;
        private int fault;
        private int faultPlace;
        private int faultNumber;

        Machine(Images bytes, Program any) {
            images = bytes;
            program = any;
        }

        long numberAt(int address) {
            return address >= 0 && address < MEMORY ? memory[address] : 0;
        }

        private void put(int address, long number) {
            if (address >= 0 && address < MEMORY) {
                memory[address] = number;
            }
        }

        void fill(int address, int size, long number) {
            for (int i = 0; i < size; i++) {
                put(address + i, number);
            }
        }

        long numberOf(Name variable, int i) {
            if (variable.isPlaced()) {
                return images.get(variable.isInput() ? IMAGE_IN : IMAGE_OUT, variable.at, variable.kind);
            }
            return numberAt(variable.at + i);
        }

        void change(Name variable, int i, long v) {
            if (variable.isPlaced()) {
                images.set(variable.at, variable.kind, v);
            } else {
                put(variable.at + i, Numbers.cutTo(variable.kind, v));
            }
        }

        void install(Program loaded, Program old, boolean warm) {
            System.arraycopy(memory, 0, oldNumbers, 0, NUMBERS);
            for (int v = 0; v < loaded.ofSort(VARIABLE); v++) {
                Name name = loaded.nth(VARIABLE, v);
                if (!name.isPlaced()) {
                    fill(name.at, name.size, name.first);
                    if (warm) {
                        keep(name, old.ofText(name.head, name.tail));
                    }
                }
            }
            resetInstances(loaded);
        }

        private void keep(Name name, Name old) {
            if (old.sort != VARIABLE || old.isPlaced()) {
                return;
            }
            for (int i = 0; i < name.size && i < old.size && old.at + i < NUMBERS; i++) {
                put(name.at + i, Numbers.cutTo(name.kind, oldNumbers[old.at + i]));
            }
        }

        void resetInstances(Program loaded) {
            for (int n = 0; n < loaded.ofSort(INSTANCE); n++) {
                Name instance = loaded.nth(INSTANCE, n);
                Name block = loaded.name(instance.block);
                for (int k = 0; k < block.locals; k++) {
                    Name local = loaded.local(block, k);
                    fill(instance.at + local.at, local.size, local.first);
                }
            }
        }

        void run(Program loaded, int entry, int watchdog, int now) {
            program = loaded;
            step = entry;
            most = watchdog;
            tick = now;
            top = NUMBERS;
            frame = NUMBERS;
            depth = 0;
            work = 0;
            fault = 0;
            faultPlace = 0;
            faultNumber = 0;
            running = true;
            for (int n = 0; n < MOST_GOES && running; n++) {
                go();
            }
        }

        private void go() {
            if (step < 0 || step >= program.steps) {
                running = false;
                return;
            }
            int operation = program.operations[step];
            int first = program.firsts[step];
            int second = program.seconds[step];
            int place = program.places[step];
            step++;
            if (operation >= COSTS) {
                if (work >= most) {
                    stop(TOO_LONG, place);
                    return;
                }
                work++;
                operation -= COSTS;
            }
            if (operation < FIRST_RECKONING) {
                move(operation, first, second, place);
            } else if (operation < FIRST_GOING) {
                reckon(operation, first, second, place);
            } else if (operation < DO_FUNCTION) {
                turn(operation, first, second);
            } else {
                call(operation, first, place);
            }
        }

        private void stop(int number, int place) {
            fault = number;
            faultPlace = place;
            running = false;
        }

        private void push(long number) {
            put(top, number);
            top++;
        }

        private long pop() {
            top--;
            return numberAt(top);
        }

        private void move(int operation, int first, int second, int place) {
            switch (operation) {
                case DO_CONSTANT: push((long) first << 32 | second & 0xffffffffL); break;
                case DO_NOW: push(tick); break;
                case DO_GET: push(numberAt(first)); break;
                case DO_GET_LOCAL: push(numberAt(frame + first)); break;
                case DO_GET_IN: push(images.get(IMAGE_IN, first, second)); break;
                case DO_GET_OUT: push(images.get(IMAGE_OUT, first, second)); break;
                case DO_SET: put(first, Numbers.cutTo(second, pop())); break;
                case DO_SET_LOCAL: put(frame + first, Numbers.cutTo(second, pop())); break;
                case DO_SET_OUT: images.set(first, second, pop()); break;
                case DO_ROW: address(first, second, place); break;
                case DO_ROW_LOCAL: address(frame + first, second, place); break;
                case DO_FETCH: push(numberAt((int) pop())); break;
                case DO_FETCH_TOP: push(numberAt((int) numberAt(top - 1))); break;
                case DO_FETCH_UNDER: push(numberAt((int) numberAt(top - 2))); break;
                case DO_ASSIGN: assign(second); break;
                case DO_DROP: pop(); break;
                default: break;
            }
        }

        private void address(int row, int size, int place) {
            long i = pop();
            if (i < 0 || i >= size) {
                stop(NO_PLACE, place);
            } else {
                push(row + i);
            }
        }

        private void assign(int kind) {
            long number = pop();
            put((int) pop(), Numbers.cutTo(kind, number));
        }

        private void reckon(int operation, int first, int second, int place) {
            long b = pop();
            switch (operation) {
                case DO_GET_BIT: push(b >>> first & 1); break;
                case DO_SET_BIT: push(b & ~(1L << first) | (pop() & 1) << first); break;
                case DO_PAIR: push(Numbers.apply(first, second != 0, pop(), b)); break;
                case DO_SINGLE: push(Numbers.apply(first, second != 0, b, 0)); break;
                case DO_CUT: push(Numbers.cutTo(first, b)); break;
                case DO_TRUTH: push(b == 0 ? 0 : 1); break;
                default:
                    if (b == 0 && Numbers.divides(first)) {
                        stop(BY_ZERO, place);
                    } else {
                        push(Numbers.combine(first, second != 0, pop(), b));
                    }
                    break;
            }
        }

        private void turn(int operation, int first, int second) {
            switch (operation) {
                case DO_JUMP: step = first; break;
                case DO_JUMP_ZERO: step = pop() == 0 ? first : step; break;
                case DO_AND: decide(false, first); break;
                case DO_OR: decide(true, first); break;
                case DO_ABOVE: step = pop() > numberAt(top - 1) ? first : step; break;
                case DO_REACHED: step = pop() == numberAt(top - 1) ? first : step; break;
                default: step += program.liesIn(numberAt(top - 1), first, second) ? 1 : 0; break;
            }
        }

        /** Goes over the right side of && or || if the left side is enough. */
        private void decide(boolean enough, int over) {
            if (pop() != 0 == enough) {
                push(enough ? 1 : 0);
                step = over;
            }
        }

        private void call(int operation, int first, int place) {
            switch (operation) {
                case DO_FUNCTION: enterFunction(program.name(first), place); break;
                case DO_INSTANCE: enterInstance(program.name(first), place); break;
                case DO_RETURN_NUMBER:
                    long number = Numbers.cutTo(first, pop());
                    comeBack();
                    push(number);
                    break;
                case DO_RETURN: comeBack(); break;
                default:
                    faultNumber = (int) pop();
                    stop(BY_FAULT, place);
                    break;
            }
        }

        private void enterFunction(Name function, int place) {
            if (depth >= MOST_CALLS) {
                stop(TOO_DEEP, place);
                return;
            }
            int base = top - function.parameters;
            remember(base);
            frame = base;
            top = base + function.size;
            for (int k = function.parameters; k < function.locals; k++) {
                Name local = program.local(function, k);
                fill(base + local.at, local.size, local.first);
            }
            step = function.entry;
        }

        private void enterInstance(Name instance, int place) {
            if (depth >= MOST_CALLS) {
                stop(TOO_DEEP, place);
                return;
            }
            remember(top);
            frame = instance.at;
            step = program.name(instance.block).entry;
        }

        private void remember(int backTop) {
            backSteps[depth] = step;
            backFrames[depth] = frame;
            backTops[depth] = backTop;
            depth++;
        }

        private void comeBack() {
            if (depth <= 0) {
                running = false;
                return;
            }
            depth--;
            step = backSteps[depth];
            frame = backFrames[depth];
            top = backTops[depth];
        }
    }

    /** What is traced, in the order in which that began, and the latest events. */
    private static final class Trace {
        private final int[] variables = new int[MOST_TRACED];
        private final int[] places = new int[MOST_TRACED];
        private final long[] numbers = new long[MOST_TRACED];
        private int traced;
        private final int[] eventTicks = new int[MOST_EVENTS];
        private final int[] eventVariables = new int[MOST_EVENTS];
        private final int[] eventPlaces = new int[MOST_EVENTS];
        private final long[] eventNumbers = new long[MOST_EVENTS];
        private int kept;
        private int next;

        void forget() {
            traced = 0;
            kept = 0;
            next = 0;
        }

        int indexOf(int variable, int place) {
            for (int k = 0; k < traced; k++) {
                if (variables[k] == variable && places[k] == place) {
                    return k;
                }
            }
            return NONE;
        }

        void begin(int variable, int place, long number) {
            if (traced < MOST_TRACED) {
                variables[traced] = variable;
                places[traced] = place;
                numbers[traced] = number;
                traced++;
            }
        }

        void leave(int k) {
            for (int i = k; i >= 0 && i + 1 < traced; i++) {
                variables[i] = variables[i + 1];
                places[i] = places[i + 1];
                numbers[i] = numbers[i + 1];
            }
            traced--;
        }

        void see(int k, int tick, long number) {
            if (numbers[k] == number) {
                return;
            }
            numbers[k] = number;
            eventTicks[next] = tick;
            eventVariables[next] = variables[k];
            eventPlaces[next] = places[k];
            eventNumbers[next] = number;
            next = (next + 1) % MOST_EVENTS;
            kept = kept < MOST_EVENTS ? kept + 1 : MOST_EVENTS;
        }

        /** Where the k-th latest event is kept. */
        int latest(int k) {
            return Math.floorMod(next - 1 - k, MOST_EVENTS);
        }
    }
}
