import java.util.Arrays;

/**
 * Scheme on a machine of sixteen bits. A text goes through Reader (bytes to datums), Spreader and
 * Pattern (uses of macros) and Coder (datums to words); Runner steps these words on a Machine whose
 * objects lie in a Heap. All rows are made once, here, and used again by every call.
 */
public final class SchemeEleven {
    public static final int NONE = -1;

    private static final int MASK = 65535;

    private static final int HALTED = 1;
    private static final int ILLEGAL = 2;
    private static final int ODD = 3;
    private static final int TRAPPED = 4;

    private static final int STATICS = 1024;
    private static final int CODE = 8192;
    private static final int HEAP = 32768;
    private static final int HEAP_END = 49152;

    private static final int FALSE = 2;
    private static final int TRUE = 4;
    private static final int NIL = 6;
    private static final int NOTHING = 8;
    private static final int PRIMITIVE = 16;

    private static final int PAIR = 1;
    private static final int CLOSURE = 2;
    private static final int RIB = 3;
    private static final int FRAME = 4;
    private static final int CONTINUATION = 5;
    private static final int SYMBOL = 6;

    private static final int SYMBOLS_MOST = 300;
    private static final int LETTERS_MOST = 13;
    private static final int TEXT_MOST = 2000;
    private static final int FORMS_MOST = 40;
    private static final int WAITING_MOST = 4096;

    private static final int READ = 1;
    private static final int SYNTAX = 2;
    private static final int RULES = 3;
    private static final int FULL = 4;

    private static final int QUOTE = 0;
    private static final int IF = 1;
    private static final int SET = 2;
    private static final int LAMBDA = 3;
    private static final int BEGIN = 4;
    private static final int DEFINE = 5;
    private static final int DEFINE_SYNTAX = 6;
    private static final int LET_SYNTAX = 7;
    private static final int KEYWORDS = 8;
    private static final int SYNTAX_RULES = 8;
    private static final int DOTS = 9;
    private static final int ANYTHING = 10;
    private static final int FIRST_PRIMITIVE = 11;
    private static final int PRIMITIVES = 27;

    /** No datum lies deeper than this: a read one within 40, one of a use within 100 lists. */
    private static final int DEEPEST = 110;

    private static final String KEYWORD_NAMES =
            "(quote if set! lambda begin define define-syntax let-syntax syntax-rules ... _ ";
    private static final String PRIMITIVE_NAMES =
            "cons car cdr set-car! set-cdr! eq? pair? null? number? symbol? procedure? boolean? + - * ";
    private static final String MORE_PRIMITIVE_NAMES =
            "quotient remainder < = call/cc apply display newline not list error read)";
    private static final String PRELUDE_LET =
            "(define-syntax let (syntax-rules () ((_ ((v e) ...) b c ...) ((lambda (v ...) b c ...) e ...)) ";
    private static final String PRELUDE_NAMED_LET =
            "((_ n ((v e) ...) b c ...) ((letrec ((n (lambda (v ...) b c ...))) n) e ...)))) ";
    private static final String PRELUDE_LETREC =
            "(define-syntax letrec (syntax-rules () ((_ ((v e) ...) b c ...) ";
    private static final String PRELUDE_LETREC_GIVES =
            "(let ((v 0) ...) (set! v e) ... (let () b c ...))))) ";
    private static final String PRELUDE_LET_STAR =
            "(define-syntax let* (syntax-rules () ((_ () b c ...) (let () b c ...)) ";
    private static final String PRELUDE_LET_STAR_MORE =
            "((_ (x y ...) b c ...) (let (x) (let* (y ...) b c ...))))) ";
    private static final String PRELUDE_AND =
            "(define-syntax and (syntax-rules () ((_) #t) ((_ a) a) ((_ a b ...) (if a (and b ...) #f)))) ";
    private static final String PRELUDE_OR =
            "(define-syntax or (syntax-rules () ((_) #f) ((_ a) a) ";
    private static final String PRELUDE_OR_MORE =
            "((_ a b ...) (let ((t a)) (if t t (or b ...)))))) ";
    private static final String PRELUDE_COND =
            "(define-syntax cond (syntax-rules (else) ((_) #f) ((_ (else a b ...)) (begin a b ...)) ";
    private static final String PRELUDE_COND_MORE =
            "((_ (a b c ...) d ...) (if a (begin b c ...) (cond d ...)))))";

    private final int[] tape = new int[TEXT_MOST];
    private int taped;
    private final Machine bench = new Machine(8192);
    private int benchSteps;
    private final Machine machine = new Machine(65536);
    private final Image image = new Image(machine);
    private final Heap heap = new Heap(machine, image);
    private final Scribe scribe = new Scribe(image, heap);
    private final Runner runner = new Runner(machine, heap, scribe);
    private final Text text = new Text();
    private final Scopes scopes = new Scopes(text);
    private final Reader reader = new Reader(text, image);
    private final Coder coder = new Coder(text, image, scopes);
    private final int[] starts = new int[FORMS_MOST];
    private final int[] page = new int[TEXT_MOST];
    private int paged;
    private int faultKind;
    private int faultPlace = NONE;

    public SchemeEleven() {
        clearScheme();
        readNames();
        writePrelude();
        takeText(page, paged);
    }

    public int feed(int a, int b, int c, int d, int e) {
        if (taped + 20 > TEXT_MOST) {
            return NONE;
        }
        tapeFour(a);
        tapeFour(b);
        tapeFour(c);
        tapeFour(d);
        tapeFour(e);
        return taped;
    }

    public boolean end(int n) {
        if (n < 0 || n > taped) {
            return false;
        }
        taped = n;
        return true;
    }

    public int load() {
        int length = taped;
        taped = 0;
        boolean good = takeText(tape, length);
        faultKind = text.fault;
        faultPlace = text.faultPlace;
        if (!good) {
            return NONE;
        }
        for (int i = 0; i < reader.forms && i < FORMS_MOST; i++) {
            runner.await(starts[i]);
        }
        return runner.waits;
    }

    public int fault(int what) {
        if (what == 0) {
            return faultKind;
        }
        return what == 1 ? faultPlace : NONE;
    }

    public int run(int n) {
        if (n < 1 || n > 20000) {
            return NONE;
        }
        return runner.proceed(n);
    }

    public int look(int what) {
        switch (what) {
            case 0: return runner.waits;
            case 1: return image.staticsEnd;
            case 2: return image.codeEnd;
            case 3: return heap.end;
            case 4: return heap.packs;
            case 5: return image.symbols;
            case 6: return runner.error;
            case 7: return runner.done;
            case 8: return scribe.written;
            case 9: return scopes.macros;
            case 10: return runner.inputs;
            default: return NONE;
        }
    }

    public int word(int place) {
        return machine.holds(place) ? machine.at(place) : NONE;
    }

    public int register(int k) {
        return machine.told(k);
    }

    public int shown(int i) {
        scribe.render(machine.r[0]);
        return i >= 0 && i < scribe.length && i < scribe.line.length ? scribe.line[i] : NONE;
    }

    public int out(int i) {
        return i >= 0 && i < scribe.kept && i < scribe.paper.length ? scribe.paper[i] : NONE;
    }

    public boolean input(int v) {
        return runner.offer(v);
    }

    public int letter(int s, int i) {
        return image.letterOf(s, i);
    }

    public void reset() {
        clearScheme();
        readNames();
        writePrelude();
        takeText(page, paged);
    }

    public boolean poke(int place, int v) {
        if (!bench.holds(place)) {
            return false;
        }
        bench.put(place, v);
        return true;
    }

    public boolean set(int k, int v) {
        if (k == 8) {
            bench.putFlags(v);
            return true;
        }
        if (k < 0 || k > 7) {
            return false;
        }
        bench.r[k] = v & MASK;
        return true;
    }

    public int go(int n) {
        if (n < 1 || n > 5000) {
            return NONE;
        }
        benchSteps = 0;
        int stop = 0;
        for (int i = 0; i < n && stop == 0; i++) {
            stop = bench.step();
            benchSteps++;
        }
        return stop;
    }

    public int peek(int place) {
        return bench.holds(place) ? bench.at(place) : NONE;
    }

    public int held(int k) {
        return k == 9 ? benchSteps : bench.told(k);
    }

    private static boolean isPrimitive(int value) {
        return (value & 1) == 0 && value >= PRIMITIVE && value < PRIMITIVE + 2 * PRIMITIVES;
    }

    private void tapeFour(int four) {
        for (int shift = 24; shift >= 0; shift -= 8) {
            if (taped < TEXT_MOST) {
                tape[taped] = four >> shift & 255;
                taped++;
            }
        }
    }

    private void clearScheme() {
        machine.clear();
        image.clear();
        heap.clear();
        scribe.clear();
        runner.clear();
        text.clear();
        scopes.clear();
        faultKind = 0;
        faultPlace = NONE;
    }

    /** The first names come by the reader, as all others do; only the primitives have values. */
    private void readNames() {
        paged = 0;
        write(KEYWORD_NAMES);
        write(PRIMITIVE_NAMES);
        write(MORE_PRIMITIVE_NAMES);
        text.begin();
        reader.readAll(page, paged);
        for (int k = 0; k < PRIMITIVES; k++) {
            machine.put(image.placeOf(FIRST_PRIMITIVE + k) + 2, PRIMITIVE + 2 * k);
        }
    }

    private void writePrelude() {
        paged = 0;
        write(PRELUDE_LET);
        write(PRELUDE_NAMED_LET);
        write(PRELUDE_LETREC);
        write(PRELUDE_LETREC_GIVES);
        write(PRELUDE_LET_STAR);
        write(PRELUDE_LET_STAR_MORE);
        write(PRELUDE_AND);
        write(PRELUDE_OR);
        write(PRELUDE_OR_MORE);
        write(PRELUDE_COND);
        write(PRELUDE_COND_MORE);
    }

    private void write(String line) {
        for (int i = 0; i < line.length() && paged < TEXT_MOST; i++) {
            page[paged] = line.charAt(i);
            paged++;
        }
    }

    /** Whether the bytes are a text without a fault; with one all is as before. */
    private boolean takeText(int[] bytes, int length) {
        text.begin();
        image.mark();
        scopes.mark();
        coder.begin();
        reader.readAll(bytes, length);
        for (int i = 0; i < reader.forms && i < FORMS_MOST && text.fault == 0; i++) {
            starts[i] = image.codeEnd;
            coder.beginForm(reader.formAt(i));
            for (int step = 0; step < Coder.STEPS_MOST && coder.isBusy(); step++) {
                coder.work();
            }
        }
        if (text.fault != 0) {
            image.takeBack();
            scopes.takeBack();
            return false;
        }
        scopes.keep();
        return true;
    }

    /** A PDP-11. What its EMT means is told by whoever steps it. */
    private static final class Machine {
        /** Behind all places: an operand that is a register. */
        private static final int REGISTER = 65536;

        private final int[] cells;
        private final int[] r = new int[8];
        private boolean n;
        private boolean z;
        private boolean v;
        private boolean c;
        private int instruction;

        Machine(int bytes) {
            cells = new int[Math.max(bytes, 2) >> 1];
        }

        void clear() {
            Arrays.fill(cells, 0);
            Arrays.fill(r, 0);
            putFlags(0);
        }

        boolean holds(int place) {
            return place >= 0 && (place & 1) == 0 && place >> 1 < cells.length;
        }

        int at(int place) {
            int i = place >> 1;
            return (place & 1) == 0 && i >= 0 && i < cells.length ? cells[i] : 0;
        }

        void put(int place, int value) {
            int i = place >> 1;
            if ((place & 1) == 0 && i >= 0 && i < cells.length) {
                cells[i] = value & MASK;
            }
        }

        void putFlags(int flags) {
            n = (flags & 8) != 0;
            z = (flags & 4) != 0;
            v = (flags & 2) != 0;
            c = (flags & 1) != 0;
        }

        int told(int k) {
            if (k == 8) {
                return (n ? 8 : 0) + (z ? 4 : 0) + (v ? 2 : 0) + (c ? 1 : 0);
            }
            return k >= 0 && k < 8 ? r[k] : NONE;
        }

        /** One instruction: 0, or why it stops. */
        int step() {
            if (!holds(r[7])) {
                return ODD;
            }
            instruction = cells[r[7] >> 1];
            r[7] = r[7] + 2 & MASK;
            switch (instruction >> 12) {
                case 0: return low(instruction);
                case 6:
                case 14: return sum(instruction);
                case 7: return extended(instruction);
                case 8: return high(instruction);
                case 15: return ILLEGAL;
                default: return twoOperands(instruction);
            }
        }

        private int low(int i) {
            if (i >= 0400 && i < 04000) {
                return branch(i);
            }
            int group = i >> 6;
            if (group >= 050 && group < 064) {
                return oneOperand(i);
            }
            if (group >= 040 && group < 050) {
                return callSubroutine(group & 7, i & 63);
            }
            switch (group) {
                case 1: return jump(i & 63);
                case 2: return returnOrFlags(i & 63);
                case 3: return swapBytes(i & 63);
                case 067: return extendSign(i & 63);
                default: return i == 0 ? HALTED : ILLEGAL;
            }
        }

        private int high(int i) {
            if (i < 0104000) {
                return branch(i);
            }
            if (i < 0104400) {
                return TRAPPED;
            }
            int group = i >> 6 & 0777;
            return group >= 050 && group < 064 ? oneOperand(i) : ILLEGAL;
        }

        private int extended(int i) {
            int k = i >> 6 & 7;
            switch (i >> 9 & 7) {
                case 0: return multiply(k, i & 63);
                case 1: return divide(k, i & 63);
                case 2: return shift(k, i & 63);
                case 4: return exclusiveOr(k, i & 63);
                case 7: return countDown(k, i & 63);
                default: return ILLEGAL;
            }
        }

        /** Where an operand is: a place, REGISTER and its number, or NONE if it can't be told. */
        private int locate(int operand, boolean bytes) {
            int k = operand & 7;
            int by = bytes && k < 6 ? 1 : 2;
            int place = r[k];
            switch (operand >> 3 & 7) {
                case 0:
                    return REGISTER + k;
                case 1:
                    return place;
                case 2:
                    r[k] = place + by & MASK;
                    return place;
                case 3:
                    if (!holds(place)) {
                        return NONE;
                    }
                    r[k] = place + 2 & MASK;
                    return cells[place >> 1];
                case 4:
                    r[k] = place - by & MASK;
                    return r[k];
                case 5:
                    r[k] = place - 2 & MASK;
                    return holds(r[k]) ? cells[r[k] >> 1] : NONE;
                case 6:
                    return indexed(k);
                default:
                    int far = indexed(k);
                    return holds(far) ? cells[far >> 1] : NONE;
            }
        }

        private int indexed(int k) {
            if (!holds(r[7])) {
                return NONE;
            }
            int x = cells[r[7] >> 1];
            r[7] = r[7] + 2 & MASK;
            return r[k & 7] + x & MASK;
        }

        /** What is there, or NONE. */
        private int taken(int where, boolean bytes) {
            if (where >= REGISTER) {
                return bytes ? r[where & 7] & 255 : r[where & 7];
            }
            if (!bytes) {
                return holds(where) ? cells[where >> 1] : NONE;
            }
            if (where < 0 || where >> 1 >= cells.length) {
                return NONE;
            }
            return cells[where >> 1] >> 8 * (where & 1) & 255;
        }

        /** Only behind a taken() of the same operand that wasn't NONE. */
        private void give(int where, int value, boolean bytes) {
            if (where >= REGISTER) {
                int k = where & 7;
                r[k] = bytes ? r[k] & 0xFF00 | value & 255 : value & MASK;
                return;
            }
            if (!bytes) {
                put(where, value);
                return;
            }
            int old = at(where & ~1);
            put(where & ~1, (where & 1) == 0 ? old & 0xFF00 | value & 255 : old & 255 | (value & 255) << 8);
        }

        private void signs(int value, int top) {
            n = (value & top) != 0;
            z = value == 0;
        }

        private static int signed(int word) {
            return (short) word;
        }

        private int twoOperands(int i) {
            boolean bytes = i >= 0100000;
            int s = taken(locate(i >> 6 & 63, bytes), bytes);
            if (s < 0) {
                return ODD;
            }
            int to = locate(i & 63, bytes);
            int d = taken(to, bytes);
            if (d < 0) {
                return ODD;
            }
            int top = bytes ? 128 : 32768;
            switch (i >> 12 & 7) {
                case 1: return move(to, s, bytes);
                case 2: return compare(s, d, top);
                case 3: return settle(s & d, top);
                case 4:
                    give(to, d & ~s, bytes);
                    return settle(d & ~s, top);
                default:
                    give(to, d | s, bytes);
                    return settle(d | s, top);
            }
        }

        private int settle(int value, int top) {
            signs(value, top);
            v = false;
            return 0;
        }

        private int move(int to, int s, boolean bytes) {
            if (bytes && to >= REGISTER) {
                r[to & 7] = (byte) s & MASK;
            } else {
                give(to, s, bytes);
            }
            return settle(s, bytes ? 128 : 32768);
        }

        private int compare(int s, int d, int top) {
            int all = 2 * top - 1;
            int rest = s - d & all;
            signs(rest, top);
            v = ((s ^ d) & top) != 0 && ((d ^ rest) & top) == 0;
            c = s < d;
            return 0;
        }

        private int sum(int i) {
            int s = taken(locate(i >> 6 & 63, false), false);
            if (s < 0) {
                return ODD;
            }
            int to = locate(i & 63, false);
            int d = taken(to, false);
            if (d < 0) {
                return ODD;
            }
            boolean adds = i < 0100000;
            int now = (adds ? d + s : d - s) & MASK;
            give(to, now, false);
            signs(now, 32768);
            boolean alike = ((s ^ d) & 32768) == 0;
            boolean asSource = ((s ^ now) & 32768) == 0;
            v = adds ? alike && !asSource : !alike && asSource;
            c = adds ? d + s > MASK : d < s;
            return 0;
        }

        private int oneOperand(int i) {
            boolean bytes = i >= 0100000;
            int to = locate(i & 63, bytes);
            int old = taken(to, bytes);
            if (old < 0) {
                return ODD;
            }
            int op = i >> 6 & 077;
            return op < 060 ? count(op, to, old, bytes) : rotate(op, to, old, bytes);
        }

        private int count(int op, int to, int old, boolean bytes) {
            int top = bytes ? 128 : 32768;
            int all = 2 * top - 1;
            int carried = c ? 1 : 0;
            int now = old;
            boolean over = false;
            boolean carry = c;
            switch (op) {
                case 050: now = 0; carry = false; break;
                case 051: now = ~old & all; carry = true; break;
                case 052: now = old + 1 & all; over = old == top - 1; break;
                case 053: now = old - 1 & all; over = old == top; break;
                case 054: now = -old & all; over = now == top; carry = now != 0; break;
                case 055: now = old + carried & all; over = c && old == top - 1; carry = c && old == all; break;
                case 056: now = old - carried & all; over = c && old == top; carry = c && old == 0; break;
                default: carry = false; break;
            }
            give(to, now, bytes);
            signs(now, top);
            v = over;
            c = carry;
            return 0;
        }

        private int rotate(int op, int to, int old, boolean bytes) {
            int top = bytes ? 128 : 32768;
            int now;
            boolean carry = (op & 1) == 0 ? (old & 1) != 0 : (old & top) != 0;
            switch (op) {
                case 060: now = old >> 1 | (c ? top : 0); break;
                case 061: now = old << 1 & 2 * top - 1 | (c ? 1 : 0); break;
                case 062: now = old >> 1 | old & top; break;
                default: now = old << 1 & 2 * top - 1; break;
            }
            give(to, now, bytes);
            signs(now, top);
            c = carry;
            v = n != c;
            return 0;
        }

        private int multiply(int k, int operand) {
            int s = taken(locate(operand, false), false);
            if (s < 0) {
                return ODD;
            }
            int product = signed(r[k]) * signed(s);
            if ((k & 1) == 0) {
                r[k] = product >> 16 & MASK;
            }
            r[k | 1] = product & MASK;
            n = product < 0;
            z = product == 0;
            v = false;
            c = product != (short) product;
            return 0;
        }

        private int divide(int k, int operand) {
            if ((k & 1) != 0) {
                return ILLEGAL;
            }
            int s = taken(locate(operand, false), false);
            if (s < 0) {
                return ODD;
            }
            v = true;
            c = s == 0;
            if (s == 0) {
                return 0;
            }
            long whole = r[k] << 16 | r[k | 1];
            long quotient = whole / signed(s);
            if (quotient != (short) quotient) {
                return 0;
            }
            r[k] = (int) quotient & MASK;
            r[k | 1] = (int) (whole % signed(s)) & MASK;
            n = quotient < 0;
            z = quotient == 0;
            v = false;
            return 0;
        }

        private int shift(int k, int operand) {
            int s = taken(locate(operand, false), false);
            if (s < 0) {
                return ODD;
            }
            int by = (s & 63) < 32 ? s & 63 : (s & 63) - 64;
            int now = r[k];
            boolean over = false;
            boolean carry = false;
            for (int i = 0; i < by; i++) {
                carry = (now & 32768) != 0;
                now = now << 1 & MASK;
                over = over || (now & 32768) != 0 != carry;
            }
            for (int i = 0; i < -by; i++) {
                carry = (now & 1) != 0;
                now = now >> 1 | now & 32768;
            }
            r[k] = now;
            signs(now, 32768);
            v = over;
            c = carry;
            return 0;
        }

        private int exclusiveOr(int k, int operand) {
            int to = locate(operand, false);
            int d = taken(to, false);
            if (d < 0) {
                return ODD;
            }
            int now = r[k] ^ d;
            give(to, now, false);
            return settle(now, 32768);
        }

        private int countDown(int k, int back) {
            r[k] = r[k] - 1 & MASK;
            if (r[k] != 0) {
                r[7] = r[7] - 2 * back & MASK;
            }
            return 0;
        }

        private int jump(int operand) {
            if (operand < 8) {
                return ILLEGAL;
            }
            int place = locate(operand, false);
            if (place < 0) {
                return ODD;
            }
            r[7] = place;
            return 0;
        }

        private int callSubroutine(int k, int operand) {
            if (operand < 8) {
                return ILLEGAL;
            }
            int place = locate(operand, false);
            if (place < 0) {
                return ODD;
            }
            int link = r[k];
            r[6] = r[6] - 2 & MASK;
            if (!holds(r[6])) {
                return ODD;
            }
            cells[r[6] >> 1] = link;
            r[k] = r[7];
            r[7] = place;
            return 0;
        }

        private int returnOrFlags(int low) {
            if (low >= 040) {
                boolean sets = (low & 16) != 0;
                int now = told(8);
                putFlags(sets ? now | low : now & ~low);
                return 0;
            }
            if (low >= 8) {
                return ILLEGAL;
            }
            r[7] = r[low];
            if (!holds(r[6])) {
                return ODD;
            }
            r[low] = cells[r[6] >> 1];
            r[6] = r[6] + 2 & MASK;
            return 0;
        }

        private int swapBytes(int operand) {
            int to = locate(operand, false);
            int d = taken(to, false);
            if (d < 0) {
                return ODD;
            }
            give(to, d >> 8 | (d & 255) << 8, false);
            signs(d >> 8, 128);
            v = false;
            c = false;
            return 0;
        }

        private int extendSign(int operand) {
            int to = locate(operand, false);
            if (taken(to, false) < 0) {
                return ODD;
            }
            give(to, n ? MASK : 0, false);
            z = !n;
            v = false;
            return 0;
        }

        private int branch(int i) {
            if (branches(i >> 8 & 7 | i >> 12 & 8)) {
                r[7] = r[7] + 2 * (byte) i & MASK;
            }
            return 0;
        }

        private boolean branches(int how) {
            switch (how) {
                case 1: return true;
                case 2: return !z;
                case 3: return z;
                case 4: return n == v;
                case 5: return n != v;
                case 6: return n == v && !z;
                case 7: return z || n != v;
                case 8: return !n;
                case 9: return n;
                case 10: return !c && !z;
                case 11: return c || z;
                case 12: return !v;
                case 13: return v;
                case 14: return !c;
                default: return c;
            }
        }
    }

    /** What texts leave in Scheme's memory: symbols and constants (statics), and code. */
    private static final class Image {
        private final Machine machine;
        private final int[] letters = new int[SYMBOLS_MOST * LETTERS_MOST];
        private final int[] lengths = new int[SYMBOLS_MOST];
        private final int[] places = new int[SYMBOLS_MOST];
        private int symbols;
        private int staticsEnd = STATICS;
        private int codeEnd = CODE;
        private int oldSymbols;
        private int oldStaticsEnd;
        private int oldCodeEnd;

        Image(Machine machine) {
            this.machine = machine;
        }

        void clear() {
            symbols = 0;
            staticsEnd = STATICS;
            codeEnd = CODE;
        }

        void mark() {
            oldSymbols = symbols;
            oldStaticsEnd = staticsEnd;
            oldCodeEnd = codeEnd;
        }

        /** A text with a fault leaves no word behind, so that memory is as it was. */
        void takeBack() {
            for (int place = oldStaticsEnd; place < staticsEnd; place += 2) {
                machine.put(place, 0);
            }
            for (int place = oldCodeEnd; place < codeEnd; place += 2) {
                machine.put(place, 0);
            }
            symbols = oldSymbols;
            staticsEnd = oldStaticsEnd;
            codeEnd = oldCodeEnd;
        }

        int placeOf(int symbol) {
            return symbol >= 0 && symbol < symbols ? places[symbol] : 0;
        }

        int letterOf(int symbol, int i) {
            if (symbol < 0 || symbol >= symbols || i < 0 || i >= lengths[symbol]) {
                return NONE;
            }
            return letters[symbol * LETTERS_MOST + i];
        }

        int find(int[] bytes, int from, int length) {
            for (int s = 0; s < symbols; s++) {
                if (lengths[s] == length && same(s * LETTERS_MOST, bytes, from, length)) {
                    return s;
                }
            }
            return NONE;
        }

        private boolean same(int start, int[] bytes, int from, int length) {
            for (int i = 0; i < length; i++) {
                if (from + i >= bytes.length || letters[start + i] != bytes[from + i]) {
                    return false;
                }
            }
            return true;
        }

        /** The new symbol's number, or NONE without room. */
        int addSymbol(int[] bytes, int from, int length) {
            if (symbols >= SYMBOLS_MOST || length > LETTERS_MOST || from + length > bytes.length) {
                return NONE;
            }
            int place = addStatic(SYMBOL + 16 * 3, 0, symbols);
            if (place == NONE) {
                return NONE;
            }
            for (int i = 0; i < length; i++) {
                letters[symbols * LETTERS_MOST + i] = bytes[from + i];
            }
            lengths[symbols] = length;
            places[symbols] = place;
            symbols++;
            return symbols - 1;
        }

        /** The place of a static of three words, or NONE without room. */
        int addStatic(int head, int first, int second) {
            if (staticsEnd + 6 > CODE) {
                return NONE;
            }
            int place = staticsEnd;
            machine.put(place, head);
            machine.put(place + 2, first);
            machine.put(place + 4, second);
            staticsEnd = place + 6;
            return place;
        }

        boolean addWord(int word) {
            if (codeEnd + 2 > HEAP) {
                return false;
            }
            machine.put(codeEnd, word);
            codeEnd += 2;
            return true;
        }
    }

    /** The objects that are made by runs, and their packing. */
    private static final class Heap {
        private static final int WORDS = (HEAP_END - HEAP) / 2;
        private static final int OBJECT = 1;
        private static final int REACHED = 2;

        private final Machine machine;
        private final Image image;
        /** For each word of the heap: 0, or what is known of the object there, at last its new place. */
        private final int[] states = new int[WORDS];
        private final int[] open = new int[WORDS / 2];
        private int opened;
        private int end = HEAP;
        private int packs;

        Heap(Machine machine, Image image) {
            this.machine = machine;
            this.image = image;
        }

        void clear() {
            end = HEAP;
            packs = 0;
        }

        /** 0 for what isn't an object. */
        int kind(int value) {
            if ((value & 1) != 0) {
                return 0;
            }
            boolean there = value >= STATICS && value < image.staticsEnd || value >= HEAP && value < end;
            return there ? machine.at(value) & 15 : 0;
        }

        /** Whether so many words fit, perhaps behind a packing: places taken before are stale then. */
        boolean hasRoom(int words) {
            if (end + 2 * words <= HEAP_END) {
                return true;
            }
            packs++;
            findObjects();
            reachAll();
            tellNewPlaces();
            followRoots();
            slide();
            return end + 2 * words <= HEAP_END;
        }

        /** Only behind hasRoom() for all that is made together. */
        int make(int kind, int words) {
            int place = end;
            machine.put(place, kind + 16 * words);
            end = Math.min(place + 2 * words, HEAP_END);
            return place;
        }

        int makePair(int first, int second) {
            int place = make(PAIR, 3);
            machine.put(place + 2, first);
            machine.put(place + 4, second);
            return place;
        }

        private static int wordsOf(int head) {
            return Math.max(head >> 4, 1);
        }

        private void findObjects() {
            Arrays.fill(states, 0);
            for (int place = HEAP; place < end && place < HEAP_END; place += 2 * wordsOf(machine.at(place))) {
                states[place - HEAP >> 1] = OBJECT;
            }
        }

        private void reach(int word) {
            if (word < HEAP || word >= HEAP_END || (word & 1) != 0 || opened >= open.length) {
                return;
            }
            int i = word - HEAP >> 1;
            if (states[i] == OBJECT) {
                states[i] = REACHED;
                open[opened] = word;
                opened++;
            }
        }

        private void reachAll() {
            opened = 0;
            for (int k = 0; k < 4; k++) {
                reach(machine.r[k]);
            }
            for (int place = STATICS; place < image.staticsEnd; place += 2) {
                reach(machine.at(place));
            }
            for (int i = 0; i < WORDS && opened > 0; i++) {
                opened--;
                int place = open[opened];
                int words = wordsOf(machine.at(place));
                for (int j = 1; j < words; j++) {
                    reach(machine.at(place + 2 * j));
                }
            }
        }

        private void tellNewPlaces() {
            int next = HEAP;
            for (int place = HEAP; place < end && place < HEAP_END; place += 2 * wordsOf(machine.at(place))) {
                int i = place - HEAP >> 1;
                if (states[i] == REACHED) {
                    states[i] = next;
                    next += 2 * wordsOf(machine.at(place));
                } else {
                    states[i] = 0;
                }
            }
        }

        private int followed(int word) {
            if (word < HEAP || word >= HEAP_END || (word & 1) != 0) {
                return word;
            }
            int to = states[word - HEAP >> 1];
            return to >= HEAP ? to : word;
        }

        private void followRoots() {
            for (int k = 0; k < 4; k++) {
                machine.r[k] = followed(machine.r[k]);
            }
            for (int place = STATICS; place < image.staticsEnd; place += 2) {
                machine.put(place, followed(machine.at(place)));
            }
        }

        private void slide() {
            int next = HEAP;
            int words = 1;
            for (int place = HEAP; place < end && place < HEAP_END; place += 2 * words) {
                words = wordsOf(machine.at(place));
                if (states[place - HEAP >> 1] >= HEAP) {
                    for (int j = 0; j < words; j++) {
                        machine.put(next, followed(machine.at(place + 2 * j)));
                        next += 2;
                    }
                }
            }
            for (int place = next; place < end; place += 2) {
                machine.put(place, 0);
            }
            end = next;
        }
    }

    /** How values are written, and the paper that keeps what forms wrote. */
    private static final class Scribe {
        private static final int PARTS_MOST = 60;
        private static final int WITHIN_MOST = 10;

        private final Image image;
        private final Heap heap;
        private final int[] line = new int[4096];
        private int length;
        private int parts;
        private boolean ended;
        private final int[] paper = new int[2000];
        private int kept;
        private int written;

        Scribe(Image image, Heap heap) {
            this.image = image;
            this.heap = heap;
        }

        void clear() {
            kept = 0;
            written = 0;
        }

        void display(int value) {
            begin();
            part(value, 0);
            for (int i = 0; i < length && i < line.length && kept < paper.length; i++) {
                paper[kept] = line[i];
                kept++;
            }
            written += length;
        }

        void print(int letter) {
            if (kept < paper.length) {
                paper[kept] = letter;
                kept++;
            }
            written++;
        }

        void render(int value) {
            begin();
            part(value, 0);
        }

        private void begin() {
            length = 0;
            parts = 0;
            ended = false;
        }

        private void put(int letter) {
            if (length < line.length) {
                line[length] = letter;
                length++;
            }
        }

        private void part(int value, int within) {
            int kind = heap.kind(value);
            if (parts >= PARTS_MOST) {
                put('%');
                ended = true;
                return;
            }
            if (kind == PAIR && within < WITHIN_MOST) {
                list(value, within);
                return;
            }
            parts++;
            if (kind == PAIR) {
                put('%');
            } else if ((value & 1) != 0) {
                digits((short) value >> 1);
            } else if (kind == SYMBOL) {
                name(heap.machine.at(value + 4));
            } else {
                mark(value, kind);
            }
        }

        private void list(int pair, int within) {
            put('(');
            int rest = pair;
            for (int i = 0; i <= PARTS_MOST && !ended && heap.kind(rest) == PAIR; i++) {
                if (i > 0) {
                    put(' ');
                }
                part(heap.machine.at(rest + 2), within + 1);
                rest = heap.machine.at(rest + 4);
            }
            if (!ended && rest != NIL) {
                put(' ');
                put('.');
                put(' ');
                part(rest, within + 1);
            }
            if (!ended) {
                put(')');
            }
        }

        private void mark(int value, int kind) {
            int letter = 0;
            if (value == TRUE) {
                letter = 't';
            } else if (value == FALSE) {
                letter = 'f';
            } else if (value == NOTHING) {
                letter = 'u';
            } else if (isPrimitive(value) || kind == CLOSURE || kind == CONTINUATION) {
                letter = 'p';
            }
            if (value == NIL) {
                put('(');
                put(')');
            } else if (letter != 0) {
                put('#');
                put(letter);
            }
        }

        private void name(int symbol) {
            for (int i = 0; i < LETTERS_MOST; i++) {
                int letter = image.letterOf(symbol, i);
                if (letter != NONE) {
                    put(letter);
                }
            }
        }

        private void digits(int number) {
            if (number < 0) {
                put('-');
            }
            int size = Math.abs(number);
            boolean begun = false;
            for (int unit = 10000; unit > 0; unit /= 10) {
                int digit = size / unit % 10;
                begun = begun || digit != 0 || unit == 1;
                if (begun) {
                    put('0' + digit);
                }
            }
        }
    }

    /** The forms that wait, their runs, and what EMT does there. */
    private static final class Runner {
        private static final int UNBOUND = 1;
        private static final int NO_PROCEDURE = 2;
        private static final int COUNT = 3;
        private static final int TYPE = 4;
        private static final int RANGE = 5;
        private static final int MEMORY = 6;
        private static final int RAISED = 7;

        /** Ends of an EMT beside 0 (it goes on) and the errors. */
        private static final int FORM_DONE = 8;
        private static final int RETURNS = 9;

        private static final int MANY = 1000;
        private static final int ARGUMENTS_MOST = 256;
        private static final int LIST_MOST = 200;
        private static final int INPUT_MOST = 50;
        private static final int[] LEAST =
            {2, 1, 1, 2, 2, 2, 1, 1, 1, 1, 1, 1, 0, 1, 0, 2, 2, 2, 2, 1, 2, 1, 0, 1, 0, 1, 0};
        private static final int[] MOST =
            {2, 1, 1, 2, 2, 2, 1, 1, 1, 1, 1, 1, MANY, MANY, MANY, 2, 2, 2, 2, 1, 2, 1, 0, 1, MANY, 1, 0};

        private final Machine machine;
        private final int[] r;
        private final Heap heap;
        private final Scribe scribe;
        private final int[] waiting = new int[WAITING_MOST];
        private int first;
        private int waits;
        private boolean underWay;
        private int done;
        private int error;
        /** What ARGS hold: the last argument first, the procedure at last. */
        private final int[] row = new int[ARGUMENTS_MOST];
        private int arguments;
        private int procedure;
        private final int[] input = new int[INPUT_MOST];
        private int inputs;

        Runner(Machine machine, Heap heap, Scribe scribe) {
            this.machine = machine;
            this.r = machine.r;
            this.heap = heap;
            this.scribe = scribe;
        }

        void clear() {
            first = 0;
            waits = 0;
            underWay = false;
            done = 0;
            error = 0;
            inputs = 0;
        }

        void await(int start) {
            if (waits < WAITING_MOST) {
                waiting[(first + waits) % WAITING_MOST] = start;
                waits++;
            }
        }

        boolean offer(int v) {
            if (v < -16384 || v > 16383 || inputs >= INPUT_MOST) {
                return false;
            }
            input[inputs] = 2 * v + 1 & MASK;
            inputs++;
            return true;
        }

        int proceed(int n) {
            if (waits == 0) {
                return 0;
            }
            for (int i = 0; i < n; i++) {
                if (!underWay) {
                    beginForm();
                }
                int end = machine.step();
                if (end == TRAPPED) {
                    end = trap(machine.instruction & 255);
                }
                if (end == FORM_DONE) {
                    endForm();
                    if (waits == 0) {
                        return 1;
                    }
                } else if (end != 0) {
                    error = end;
                    waits = 0;
                    underWay = false;
                    return 3;
                }
            }
            return 2;
        }

        private void beginForm() {
            r[0] = NOTHING;
            r[1] = NIL;
            r[2] = 0;
            r[3] = NIL;
            r[7] = waiting[first % WAITING_MOST];
            underWay = true;
        }

        private void endForm() {
            done++;
            first = (first + 1) % WAITING_MOST;
            waits--;
            underWay = false;
        }

        private int trap(int emt) {
            switch (emt) {
                case 0: return push();
                case 1: return makeFrame();
                case 2: return makeClosure();
                case 3:
                    collect();
                    int end = isPrimitive(procedure) ? primitive(procedure - PRIMITIVE >> 1) : call();
                    return end == RETURNS ? goBack() : end;
                case 4: return goBack();
                default: return UNBOUND;
            }
        }

        private int push() {
            if (!heap.hasRoom(3)) {
                return MEMORY;
            }
            r[3] = heap.makePair(r[0], r[3]);
            return 0;
        }

        private int nextWord() {
            int x = machine.at(r[7]);
            r[7] = r[7] + 2 & MASK;
            return x;
        }

        private int makeFrame() {
            int x = nextWord();
            if (!heap.hasRoom(5)) {
                return MEMORY;
            }
            int frame = heap.make(FRAME, 5);
            machine.put(frame + 2, x);
            machine.put(frame + 4, r[1]);
            machine.put(frame + 6, r[2]);
            machine.put(frame + 8, r[3]);
            r[2] = frame;
            r[3] = NIL;
            return 0;
        }

        private int makeClosure() {
            int x = nextWord();
            if (!heap.hasRoom(3)) {
                return MEMORY;
            }
            int closure = heap.make(CLOSURE, 3);
            machine.put(closure + 2, x);
            machine.put(closure + 4, r[1]);
            r[0] = closure;
            return 0;
        }

        private int goBack() {
            int frame = r[2];
            if (frame == 0) {
                return FORM_DONE;
            }
            r[7] = machine.at(frame + 2);
            r[1] = machine.at(frame + 4);
            r[2] = machine.at(frame + 6);
            r[3] = machine.at(frame + 8);
            return 0;
        }

        private void collect() {
            int total = 0;
            for (int p = r[3]; total < ARGUMENTS_MOST && heap.kind(p) == PAIR; p = machine.at(p + 4)) {
                row[total] = machine.at(p + 2);
                total++;
            }
            arguments = Math.max(total - 1, 0);
            procedure = total > 0 ? row[total - 1] : 0;
        }

        private int argument(int i) {
            int at = arguments - 1 - i;
            return i >= 0 && at >= 0 && at < ARGUMENTS_MOST ? row[at] : 0;
        }

        private int call() {
            int kind = heap.kind(procedure);
            if (kind == CLOSURE) {
                return enter();
            }
            if (kind != CONTINUATION) {
                return NO_PROCEDURE;
            }
            if (arguments != 1) {
                return COUNT;
            }
            r[2] = machine.at(procedure + 2);
            r[0] = argument(0);
            return RETURNS;
        }

        private int enter() {
            int shape = machine.at(machine.at(procedure + 2));
            int n = shape >> 1;
            int more = shape & 1;
            if (arguments < n || more == 0 && arguments > n) {
                return COUNT;
            }
            if (!heap.hasRoom(2 + n + more + 3 * (arguments - n))) {
                return MEMORY;
            }
            collect();
            int rib = heap.make(RIB, 2 + n + more);
            machine.put(rib + 2, machine.at(procedure + 4));
            for (int i = 0; i < n; i++) {
                machine.put(rib + 4 + 2 * i, argument(i));
            }
            int slot = rib + 4 + 2 * n;
            for (int i = n; i < arguments; i++) {
                int pair = heap.makePair(argument(i), NIL);
                machine.put(slot, pair);
                slot = pair + 4;
            }
            if (more == 1) {
                machine.put(slot, NIL);
            }
            r[1] = rib;
            r[3] = NIL;
            r[7] = machine.at(procedure + 2) + 2 & MASK;
            return 0;
        }

        private int primitive(int k) {
            if (k < 0 || k >= PRIMITIVES || arguments < LEAST[k] || arguments > MOST[k]) {
                return COUNT;
            }
            if (k >= 6 && k <= 11) {
                return answer(holds(k, argument(0)));
            }
            if (k >= 12 && k <= 16) {
                return reckon(k);
            }
            switch (k) {
                case 0: return cons();
                case 1:
                case 2:
                case 3:
                case 4: return pairPart(k);
                case 5: return answer(argument(0) == argument(1));
                case 17:
                case 18: return comparison(k);
                case 19: return callWithContinuation();
                case 20: return apply();
                case 21:
                    scribe.display(argument(0));
                    return given(NOTHING);
                case 22:
                    scribe.print(10);
                    return given(NOTHING);
                case 23: return answer(argument(0) == FALSE);
                case 24: return list();
                case 25:
                    r[0] = argument(0);
                    return RAISED;
                default: return readInput();
            }
        }

        private int given(int value) {
            r[0] = value;
            r[3] = NIL;
            return RETURNS;
        }

        private int answer(boolean so) {
            return given(so ? TRUE : FALSE);
        }

        private boolean holds(int k, int value) {
            int kind = heap.kind(value);
            switch (k) {
                case 6: return kind == PAIR;
                case 7: return value == NIL;
                case 8: return (value & 1) != 0;
                case 9: return kind == SYMBOL;
                case 10: return isPrimitive(value) || kind == CLOSURE || kind == CONTINUATION;
                default: return value == TRUE || value == FALSE;
            }
        }

        private int cons() {
            if (!heap.hasRoom(3)) {
                return MEMORY;
            }
            collect();
            return given(heap.makePair(argument(0), argument(1)));
        }

        private int pairPart(int k) {
            int pair = argument(0);
            if (heap.kind(pair) != PAIR) {
                return TYPE;
            }
            int place = (k & 1) == 1 ? pair + 2 : pair + 4;
            if (k <= 2) {
                return given(machine.at(place));
            }
            machine.put(place, argument(1));
            return given(NOTHING);
        }

        private boolean allNumbers() {
            for (int i = 0; i < arguments; i++) {
                if ((argument(i) & 1) == 0) {
                    return false;
                }
            }
            return true;
        }

        private int number(int i) {
            return (short) argument(i) >> 1;
        }

        private int comparison(int k) {
            if (!allNumbers()) {
                return TYPE;
            }
            return answer(k == 17 ? number(0) < number(1) : number(0) == number(1));
        }

        private int reckon(int k) {
            if (!allNumbers()) {
                return TYPE;
            }
            boolean fromFirst = k >= 15 || k == 13 && arguments > 1;
            int value = fromFirst ? number(0) : k == 14 ? 1 : 0;
            for (int i = fromFirst ? 1 : 0; i < arguments; i++) {
                int next = number(i);
                if (k >= 15 && next == 0) {
                    return RANGE;
                }
                value = step(k, value, next);
                if (value < -16384 || value > 16383) {
                    return RANGE;
                }
            }
            return given(2 * value + 1 & MASK);
        }

        private static int step(int k, int value, int next) {
            switch (k) {
                case 12: return value + next;
                case 13: return value - next;
                case 14: return value * next;
                case 15: return next == 0 ? 0 : value / next;
                default: return next == 0 ? 0 : value % next;
            }
        }

        private int callWithContinuation() {
            if (!heap.hasRoom(8)) {
                return MEMORY;
            }
            collect();
            int continuation = heap.make(CONTINUATION, 2);
            machine.put(continuation + 2, r[2]);
            int last = heap.makePair(argument(0), NIL);
            r[3] = heap.makePair(continuation, last);
            r[7] = r[7] - 2 & MASK;
            return 0;
        }

        private int apply() {
            int n = 0;
            int rest = argument(1);
            while (n < LIST_MOST && heap.kind(rest) == PAIR) {
                rest = machine.at(rest + 4);
                n++;
            }
            if (n >= LIST_MOST || rest != NIL) {
                return TYPE;
            }
            if (!heap.hasRoom(3 * n + 3)) {
                return MEMORY;
            }
            collect();
            rest = argument(1);
            int made = heap.makePair(argument(0), NIL);
            for (int i = 0; i < n; i++) {
                made = heap.makePair(machine.at(rest + 2), made);
                rest = machine.at(rest + 4);
            }
            r[3] = made;
            r[7] = r[7] - 2 & MASK;
            return 0;
        }

        private int list() {
            if (!heap.hasRoom(3 * arguments)) {
                return MEMORY;
            }
            collect();
            int made = NIL;
            for (int i = arguments - 1; i >= 0; i--) {
                made = heap.makePair(argument(i), made);
            }
            return given(made);
        }

        private int readInput() {
            if (inputs == 0) {
                return given(FALSE);
            }
            int value = input[0];
            inputs--;
            System.arraycopy(input, 1, input, 0, inputs);
            return given(value);
        }
    }

    /**
     * The datums of a text, as numbers of rows, and the first fault that was found in it. Rules that
     * define-syntax told outlive their text: they lie in one of two halves below the text's own, and
     * are copied to the other half whenever they change, so that what was replaced is gone.
     */
    private static final class Text {
        private static final int EMPTY = 0;
        private static final int CONSTANT = 1;
        private static final int NAME = 2;
        private static final int ALIAS = 3;
        private static final int CONS = 4;

        private static final int KEPT = 3000;
        /** A byte gives four datums at most (the sign of quote), uses 4,000, a define two. */
        private static final int SIZE = 2 * KEPT + 4 * TEXT_MOST + 4000 + 3 * FORMS_MOST;
        /** Added to an alias's number where it stands among symbols' numbers. */
        private static final int ALIASES = 512;

        /** The kind, 8 * the place, 16384 * the symbol that a name is at last. */
        private final int[] tags = new int[SIZE];
        private final int[] firsts = new int[SIZE];
        private final int[] seconds = new int[SIZE];
        private int used = 2 * KEPT;
        private int half;
        private int keptUsed;
        private int fault;
        private int faultPlace = NONE;
        private int measured;

        void clear() {
            half = 0;
            keptUsed = 0;
            begin();
        }

        void begin() {
            used = 2 * KEPT;
            fault = 0;
            faultPlace = NONE;
        }

        void fail(int kind, int place) {
            if (fault == 0) {
                fault = kind;
                faultPlace = place;
            }
        }

        /** Parts of a pair; a constant's word; a symbol; the name of an alias and the scope of that. */
        int add(int kind, int place, int symbol, int first, int second) {
            int d = Math.min(used, SIZE - 1);
            tags[d] = kind + 8 * place + 16384 * symbol;
            firsts[d] = first;
            seconds[d] = second;
            used = d + 1;
            return d;
        }

        int kind(int d) {
            return d >= 0 && d < SIZE ? tags[d] & 7 : EMPTY;
        }

        int place(int d) {
            return d >= 0 && d < SIZE ? tags[d] >> 3 & 2047 : 0;
        }

        boolean isCons(int d) {
            return d >= 0 && d < SIZE && (tags[d] & 7) == CONS;
        }

        int first(int d) {
            return d >= 0 && d < SIZE && (tags[d] & 7) == CONS ? firsts[d] : NONE;
        }

        int rest(int d) {
            return d >= 0 && d < SIZE && (tags[d] & 7) == CONS ? seconds[d] : NONE;
        }

        void setFirst(int d, int part) {
            if (d >= 0 && d < SIZE) {
                firsts[d] = part;
            }
        }

        void setRest(int d, int part) {
            if (d >= 0 && d < SIZE) {
                seconds[d] = part;
            }
        }

        boolean isName(int d) {
            return d >= 0 && d < SIZE && ((tags[d] & 7) == NAME || (tags[d] & 7) == ALIAS);
        }

        /** What tells one name from all others: a symbol's number, or an alias's behind all of these. */
        int nameOf(int d) {
            int kind = d >= 0 && d < SIZE ? tags[d] & 7 : EMPTY;
            if (kind == NAME) {
                return firsts[d];
            }
            return kind == ALIAS ? ALIASES + d : NONE;
        }

        int symbolAtLast(int d) {
            boolean isName = d >= 0 && d < SIZE && ((tags[d] & 7) == NAME || (tags[d] & 7) == ALIAS);
            return isName ? tags[d] >> 14 : NONE;
        }

        /** Whether the part that begins here is followed by the dots. */
        boolean repeats(int d) {
            int next = d >= 0 && d < SIZE && (tags[d] & 7) == CONS ? seconds[d] : NONE;
            int behind = next >= 0 && next < SIZE && (tags[next] & 7) == CONS ? firsts[next] : NONE;
            if (behind < 0 || behind >= SIZE) {
                return false;
            }
            boolean isName = (tags[behind] & 7) == NAME || (tags[behind] & 7) == ALIAS;
            return isName && tags[behind] >> 14 == DOTS;
        }

        /** The name that an alias stands for where its macro was told. */
        int aliasedName(int d) {
            return d >= 0 && d < SIZE && (tags[d] & 7) == ALIAS ? firsts[d] : NONE;
        }

        int aliasScope(int d) {
            return d >= 0 && d < SIZE && (tags[d] & 7) == ALIAS ? seconds[d] : 0;
        }

        /** The word of a constant or of (). */
        int wordOf(int d) {
            return d >= 0 && d < SIZE && (tags[d] & 7) <= CONSTANT ? firsts[d] : 0;
        }

        /** How many parts a list has; NONE of what doesn't end with (). */
        int count(int list) {
            int n = 0;
            int rest = list;
            while (n < SIZE && isCons(rest)) {
                rest = seconds[rest];
                n++;
            }
            return kind(rest) == EMPTY ? n : NONE;
        }

        /** All parts of a datum, as often as they stand; beyond the bounds just more than most. */
        int measure(int d, int most, int deepest) {
            measured = 0;
            weigh(d, most, deepest);
            return measured;
        }

        private void weigh(int d, int most, int deepest) {
            int rest = d;
            while (measured <= most && isCons(rest)) {
                if (deepest <= 0) {
                    measured = most;
                }
                measured++;
                if (measured <= most) {
                    weigh(firsts[rest], most, deepest - 1);
                }
                rest = seconds[rest];
            }
            measured++;
        }

        boolean hasAlias(int d) {
            return findsAlias(d, 0);
        }

        private boolean findsAlias(int d, int depth) {
            int rest = d;
            for (int i = 0; i < SIZE && depth < DEEPEST && isCons(rest); i++) {
                if (findsAlias(firsts[rest], depth + 1)) {
                    return true;
                }
                rest = seconds[rest];
            }
            return kind(rest) == ALIAS;
        }

        void turnKept() {
            half = 1 - half;
            keptUsed = 0;
        }

        int keep(int d) {
            return copy(d, 0);
        }

        private int copy(int d, int depth) {
            int head = addKept(d);
            int last = head;
            for (int i = 0; i < KEPT && depth < DEEPEST && isCons(last); i++) {
                setFirst(last, copy(firsts[last], depth + 1));
                int next = addKept(seconds[last]);
                setRest(last, next);
                last = next;
            }
            return head;
        }

        private int addKept(int d) {
            int to = half * KEPT + Math.min(keptUsed, KEPT - 1);
            keptUsed++;
            boolean there = d >= 0 && d < SIZE;
            tags[to] = there ? tags[d] : EMPTY;
            firsts[to] = there ? firsts[d] : NONE;
            seconds[to] = there ? seconds[d] : NONE;
            return to;
        }
    }

    /** From bytes to datums. */
    private static final class Reader {
        private static final int OPEN_MOST = 40;
        private static final int QUOTED = 0;
        private static final int PARTS = 1;
        private static final int POINT = 2;
        private static final int TAIL = 3;

        private final Text text;
        private final Image image;
        private final int[] heads = new int[FORMS_MOST];
        private int forms;
        private final int[] states = new int[OPEN_MOST];
        private final int[] begins = new int[OPEN_MOST];
        private final int[] lists = new int[OPEN_MOST];
        private final int[] lasts = new int[OPEN_MOST];
        private int open;
        /** The datum that a token has ended, or NONE. */
        private int ended;

        Reader(Text text, Image image) {
            this.text = text;
            this.image = image;
        }

        int formAt(int i) {
            return i >= 0 && i < forms && i < FORMS_MOST ? heads[i] : NONE;
        }

        void readAll(int[] bytes, int given) {
            int length = Math.min(given, bytes.length);
            forms = 0;
            open = 0;
            int at = skipBlanks(bytes, length, 0);
            for (int i = 0; i < length && at < length && text.fault == 0; i++) {
                ended = NONE;
                int end = endOfToken(bytes, length, at);
                if (bytes[at] == '(' || bytes[at] == '\'' || bytes[at] == ')') {
                    readMark(bytes[at], at);
                } else {
                    readRow(bytes, at, end);
                }
                if (ended != NONE) {
                    deliver(ended);
                }
                at = skipBlanks(bytes, length, end);
            }
            if (open > 0) {
                text.fail(READ, length);
            }
        }

        private static int skipBlanks(int[] bytes, int length, int from) {
            boolean remark = false;
            for (int at = from; at < length; at++) {
                int c = bytes[at];
                if (c == 10) {
                    remark = false;
                } else if (c == ';') {
                    remark = true;
                } else if (c != 32 && !remark) {
                    return at;
                }
            }
            return length;
        }

        private static boolean isDigit(int c) {
            return c >= '0' && c <= '9';
        }

        private static boolean isSign(int c) {
            switch (c) {
                case '!': case '?': case '*': case '+': case '-': case '/':
                case '<': case '=': case '>': case '.': case '_':
                    return true;
                default:
                    return isDigit(c) || c >= 'a' && c <= 'z';
            }
        }

        private static int endOfToken(int[] bytes, int length, int at) {
            if (bytes[at] != '#' && !isSign(bytes[at])) {
                return at + 1;
            }
            int end = at + 1;
            while (end < length && isSign(bytes[end])) {
                end++;
            }
            return end;
        }

        private boolean mayStand(int at) {
            boolean may = open == 0 ? forms < FORMS_MOST : states[open - 1] != TAIL;
            if (!may) {
                text.fail(READ, at);
            }
            return may;
        }

        private void readMark(int mark, int at) {
            if (mark == ')') {
                closeList(at);
                return;
            }
            if (!mayStand(at)) {
                return;
            }
            if (open >= OPEN_MOST) {
                text.fail(READ, at);
                return;
            }
            states[open] = mark == '(' ? PARTS : QUOTED;
            begins[open] = at;
            lists[open] = NONE;
            lasts[open] = NONE;
            open++;
        }

        private void closeList(int at) {
            int state = open > 0 ? states[open - 1] : QUOTED;
            if (state != PARTS && state != TAIL) {
                text.fail(READ, at);
                return;
            }
            open--;
            ended = lists[open];
            if (ended == NONE) {
                ended = text.add(Text.EMPTY, begins[open], 0, NIL, NONE);
            } else if (state == PARTS) {
                text.setRest(lasts[open], text.add(Text.EMPTY, at, 0, NIL, NONE));
            }
        }

        /** A row of the signs of names, or # and such a row, or a byte that begins no token. */
        private void readRow(int[] bytes, int at, int end) {
            int c = bytes[at];
            if (c == '#') {
                readBoolean(at, end == at + 2 ? bytes[at + 1] : 0);
            } else if (!isSign(c)) {
                text.fail(READ, at);
            } else if (isDigit(c) || c == '-' && end > at + 1 && isDigit(bytes[at + 1])) {
                readNumber(bytes, at, end);
            } else if (c == '.' && end == at + 1) {
                readPoint(at);
            } else if (end - at > LETTERS_MOST) {
                text.fail(READ, at);
            } else if (mayStand(at)) {
                readName(bytes, at, end - at);
            }
        }

        private void readBoolean(int at, int letter) {
            if (letter != 't' && letter != 'f') {
                text.fail(READ, at);
            } else if (mayStand(at)) {
                ended = text.add(Text.CONSTANT, at, 0, letter == 't' ? TRUE : FALSE, NONE);
            }
        }

        private void readNumber(int[] bytes, int at, int end) {
            boolean minus = bytes[at] == '-';
            int begin = minus ? at + 1 : at;
            int value = 0;
            boolean good = end - begin <= 5;
            for (int i = begin; i < end && good; i++) {
                good = isDigit(bytes[i]);
                value = 10 * value + bytes[i] - '0';
            }
            value = minus ? -value : value;
            if (!good || value < -16384 || value > 16383) {
                text.fail(READ, at);
            } else if (mayStand(at)) {
                ended = text.add(Text.CONSTANT, at, 0, 2 * value + 1 & MASK, NONE);
            }
        }

        private void readPoint(int at) {
            if (open > 0 && states[open - 1] == PARTS && lists[open - 1] != NONE) {
                states[open - 1] = POINT;
            } else {
                text.fail(READ, at);
            }
        }

        private void readName(int[] bytes, int at, int length) {
            int symbol = image.find(bytes, at, length);
            if (symbol == NONE && image.symbols >= SYMBOLS_MOST) {
                text.fail(READ, at);
                return;
            }
            if (symbol == NONE) {
                symbol = image.addSymbol(bytes, at, length);
            }
            if (symbol == NONE) {
                text.fail(FULL, at);
                return;
            }
            ended = text.add(Text.NAME, at, symbol, symbol, NONE);
        }

        /** The datum goes to what is open around it, which a quote's datum ends. */
        private void deliver(int datum) {
            int d = datum;
            for (int i = 0; i < OPEN_MOST && open > 0 && states[open - 1] == QUOTED; i++) {
                open--;
                d = quoted(begins[open], d);
            }
            if (open > 0) {
                append(open - 1, d);
            } else if (forms < FORMS_MOST) {
                heads[forms] = d;
                forms++;
            }
        }

        private int quoted(int at, int datum) {
            int end = text.add(Text.EMPTY, at, 0, NIL, NONE);
            int rest = text.add(Text.CONS, text.place(datum), 0, datum, end);
            int name = text.add(Text.NAME, at, QUOTE, QUOTE, NONE);
            return text.add(Text.CONS, at, 0, name, rest);
        }

        private void append(int k, int d) {
            if (states[k] == POINT) {
                text.setRest(lasts[k], d);
                states[k] = TAIL;
                return;
            }
            boolean isFirst = lists[k] == NONE;
            int pair = text.add(Text.CONS, isFirst ? begins[k] : text.place(d), 0, d, NONE);
            if (isFirst) {
                lists[k] = pair;
            } else {
                text.setRest(lasts[k], pair);
            }
            lasts[k] = pair;
        }
    }

    /** What names mean: those told in scopes, which are chains of numbers from 1 on, and macros. */
    private static final class Scopes {
        private static final int TOLD_MOST = 12000;
        private static final int MACROS_MOST = 60;
        /** Meanings: a global's symbol, a keyword, a macro of define-syntax, or what a scope told. */
        private static final int KEYWORD = 1000;
        private static final int MACRO = 2000;
        private static final int TOLD = 10000;
        /** Far above all scopes of all aliases that a name can go through. */
        private static final int HOPS_MOST = 100000000;

        private final Text text;
        private final int[] names = new int[TOLD_MOST + 1];
        /** Of a variable 32 * its level and its slot; of a macro -1 less its rules. */
        private final int[] infos = new int[TOLD_MOST + 1];
        private final int[] outers = new int[TOLD_MOST + 1];
        private final int[] nexts = new int[TOLD_MOST + 1];
        private int told;
        private final int[] rules = new int[SYMBOLS_MOST];
        private final int[] parts = new int[SYMBOLS_MOST];
        private final int[] oldRules = new int[SYMBOLS_MOST];
        private final int[] oldParts = new int[SYMBOLS_MOST];
        private int macros;
        private int allParts;
        private int oldMacros;
        private int oldAllParts;
        private boolean changed;

        Scopes(Text text) {
            this.text = text;
        }

        void clear() {
            Arrays.fill(rules, NONE);
            Arrays.fill(parts, 0);
            macros = 0;
            allParts = 0;
        }

        void mark() {
            told = 0;
            changed = false;
            System.arraycopy(rules, 0, oldRules, 0, SYMBOLS_MOST);
            System.arraycopy(parts, 0, oldParts, 0, SYMBOLS_MOST);
            oldMacros = macros;
            oldAllParts = allParts;
        }

        void takeBack() {
            System.arraycopy(oldRules, 0, rules, 0, SYMBOLS_MOST);
            System.arraycopy(oldParts, 0, parts, 0, SYMBOLS_MOST);
            macros = oldMacros;
            allParts = oldAllParts;
        }

        void keep() {
            if (!changed) {
                return;
            }
            text.turnKept();
            for (int s = 0; s < SYMBOLS_MOST; s++) {
                if (rules[s] != NONE) {
                    rules[s] = text.keep(rules[s]);
                }
            }
        }

        /** False without room for one more macro, or for its parts. */
        boolean tellMacro(int symbol, int root) {
            if (symbol < 0 || symbol >= SYMBOLS_MOST) {
                return false;
            }
            boolean isNew = rules[symbol] == NONE;
            int size = text.measure(root, Text.KEPT, DEEPEST);
            if (isNew && macros >= MACROS_MOST || allParts - parts[symbol] + size > Text.KEPT) {
                return false;
            }
            macros += isNew ? 1 : 0;
            allParts += size - parts[symbol];
            parts[symbol] = size;
            rules[symbol] = root;
            changed = true;
            return true;
        }

        boolean hasRoom(int more) {
            return told + more <= TOLD_MOST;
        }

        /** The scope with one more name; outer counts for a macro alone. */
        int tell(int scope, int name, int info, int outer) {
            if (told >= TOLD_MOST) {
                return scope;
            }
            told++;
            names[told] = name;
            infos[told] = info;
            outers[told] = outer;
            nexts[told] = scope;
            return told;
        }

        int meaning(int d, int scope) {
            int name = text.nameOf(d);
            int within = scope;
            for (int i = 0; i < HOPS_MOST && name != NONE; i++) {
                if (within > 0 && within <= told) {
                    if (names[within] == name) {
                        return TOLD + within;
                    }
                    within = nexts[within];
                } else if (name < Text.ALIASES) {
                    return ofSymbol(name);
                } else {
                    int alias = name - Text.ALIASES;
                    name = text.aliasedName(alias);
                    within = text.aliasScope(alias);
                }
            }
            return NONE;
        }

        private int ofSymbol(int symbol) {
            if (symbol >= 0 && symbol < SYMBOLS_MOST && rules[symbol] != NONE) {
                return MACRO + symbol;
            }
            return symbol < KEYWORDS ? KEYWORD + symbol : symbol;
        }

        boolean isMacro(int meaning) {
            return meaning >= MACRO && (meaning < TOLD || infoOf(meaning) < 0);
        }

        boolean isGlobal(int meaning) {
            return meaning >= 0 && meaning < KEYWORD;
        }

        boolean isVariable(int meaning) {
            return meaning >= TOLD && infoOf(meaning) >= 0;
        }

        int keywordOf(int meaning) {
            return meaning >= KEYWORD && meaning < MACRO ? meaning - KEYWORD : NONE;
        }

        int infoOf(int meaning) {
            int i = meaning - TOLD;
            return i > 0 && i <= told ? infos[i] : 0;
        }

        int rulesOf(int macro) {
            if (macro >= TOLD) {
                return -1 - infoOf(macro);
            }
            int symbol = macro - MACRO;
            return symbol >= 0 && symbol < SYMBOLS_MOST ? rules[symbol] : NONE;
        }

        int scopeOf(int macro) {
            int i = macro - TOLD;
            return i > 0 && i <= told ? outers[i] : 0;
        }
    }

    /**
     * The variables of one rule's pattern, in the order in which they stand, and its groups: a group
     * is a part with dots behind it. A group is bound to the list that it stands for, and its own
     * variables only while its parts are gone through.
     */
    private static final class Pattern {
        private static final int VARIABLES_MOST = 2048;
        private static final int GROUPS_MOST = 1024;
        private static final int LEVEL_MOST = 2;

        private final Text text;
        private int literals = NONE;
        /** Where each variable stands, what it stands for, its outer and its inner group or NONE. */
        private final int[] nodes = new int[VARIABLES_MOST];
        private final int[] values = new int[VARIABLES_MOST];
        private final int[] outers = new int[VARIABLES_MOST];
        private final int[] inners = new int[VARIABLES_MOST];
        private int variables;
        /** Of each group its part, its list, what is left of that, and the numbers behind its own ones. */
        private final int[] bodies = new int[GROUPS_MOST];
        private final int[] lists = new int[GROUPS_MOST];
        private final int[] cursors = new int[GROUPS_MOST];
        private final int[] firstVariables = new int[GROUPS_MOST];
        private final int[] nextVariables = new int[GROUPS_MOST];
        private final int[] nextGroups = new int[GROUPS_MOST];
        private int groups;
        private int outer;
        private int variableAt;
        private int groupAt;
        /** Groups that are gone through side by side, in two halves: around none, and within those. */
        private final int[] abreast = new int[2 * GROUPS_MOST];
        private final int[] abreastCount = new int[2];

        Pattern(Text text) {
            this.text = text;
        }

        void begin(int literalNames) {
            literals = literalNames;
            variables = 0;
            groups = 0;
            outer = NONE;
        }

        /** Whether it is a pattern, its variables and groups being known then. */
        private boolean learn(int pattern, int group, int level, int depth) {
            int p = pattern;
            for (int i = 0; i < Text.SIZE && depth < DEEPEST && text.isCons(p); i++) {
                int x = text.first(p);
                if (text.symbolAtLast(x) == DOTS) {
                    return false;
                }
                if (text.repeats(p)) {
                    boolean last = text.kind(text.rest(text.rest(p))) == Text.EMPTY;
                    return last && level < LEVEL_MOST && learnGroup(x, level, depth);
                }
                if (!learn(x, group, level, depth + 1)) {
                    return false;
                }
                p = text.rest(p);
            }
            int symbol = text.symbolAtLast(p);
            if (symbol != NONE && symbol != ANYTHING && symbol != DOTS && !isLiteral(p)) {
                learnVariable(p, group, level);
            }
            return symbol != DOTS;
        }

        private boolean learnGroup(int body, int level, int depth) {
            if (groups >= GROUPS_MOST) {
                return false;
            }
            int g = groups;
            groups++;
            outer = level == 0 ? g : outer;
            bodies[g] = body;
            firstVariables[g] = variables;
            boolean good = learn(body, g, level + 1, depth + 1);
            nextVariables[g] = variables;
            nextGroups[g] = groups;
            return good;
        }

        private void learnVariable(int p, int group, int level) {
            if (variables < VARIABLES_MOST) {
                nodes[variables] = p;
                outers[variables] = level > 0 ? outer : NONE;
                inners[variables] = level > 1 ? group : NONE;
                variables++;
            }
        }

        boolean hasTwins() {
            for (int i = 0; i < variables; i++) {
                if (find(text.nameOf(nodes[i])) != i) {
                    return true;
                }
            }
            return false;
        }

        boolean isLiteral(int p) {
            int name = text.nameOf(p);
            int rest = literals;
            for (int i = 0; i < Text.SIZE && text.isCons(rest); i++) {
                if (text.nameOf(text.first(rest)) == name) {
                    return true;
                }
                rest = text.rest(rest);
            }
            return false;
        }

        /** The number of the variable of this name, or NONE. */
        int find(int name) {
            for (int v = 0; v < variables && name != NONE; v++) {
                if (text.nameOf(nodes[v]) == name) {
                    return v;
                }
            }
            return NONE;
        }

        int depthOf(int v) {
            if (v < 0 || v >= variables || outers[v] == NONE) {
                return 0;
            }
            return inners[v] == NONE ? 1 : 2;
        }

        int valueOf(int v) {
            return v >= 0 && v < variables ? values[v] : NONE;
        }

        /** The same way through the pattern as learn(), so that the numbers are the same. */
        private void bind(int pattern, int datum, int depth) {
            int p = pattern;
            int d = datum;
            for (int i = 0; i < Text.SIZE && depth < DEEPEST && text.isCons(p); i++) {
                if (text.repeats(p)) {
                    bindGroup(d);
                    return;
                }
                bind(text.first(p), text.first(d), depth + 1);
                p = text.rest(p);
                d = text.rest(d);
            }
            if (variableAt < variables && nodes[variableAt] == p) {
                values[variableAt] = d;
                variableAt++;
            }
        }

        private void bindGroup(int list) {
            int g = groupAt;
            if (g < groups) {
                lists[g] = list;
                variableAt = nextVariables[g];
                groupAt = nextGroups[g];
            }
        }

        void bindAll(int pattern, int datum) {
            variableAt = 0;
            groupAt = 0;
            bind(pattern, datum, 0);
        }

        /** The groups of a template's part stand for their next parts. */
        void bindNext(int half) {
            int count = half >= 0 && half < 2 ? abreastCount[half] : 0;
            for (int i = 0; i < count; i++) {
                int g = abreast[half * GROUPS_MOST + i];
                variableAt = firstVariables[g];
                groupAt = g + 1;
                bind(bodies[g], text.first(cursors[g]), 0);
                cursors[g] = text.rest(cursors[g]);
            }
        }

        /** How many parts all groups in a template's part have; NONE if unlike many. */
        int align(int part, int half) {
            if (half < 0 || half > 1) {
                return NONE;
            }
            abreastCount[half] = 0;
            gather(part, half, 0);
            int times = NONE;
            for (int i = 0; i < abreastCount[half]; i++) {
                int g = abreast[half * GROUPS_MOST + i];
                int n = text.count(lists[g]);
                if (times != NONE && n != times) {
                    return NONE;
                }
                times = n;
                cursors[g] = lists[g];
            }
            return times;
        }

        private void gather(int part, int half, int depth) {
            int rest = part;
            for (int i = 0; i < Text.SIZE && depth < DEEPEST && text.isCons(rest); i++) {
                gather(text.first(rest), half, depth + 1);
                rest = text.rest(rest);
            }
            int name = text.nameOf(rest);
            for (int v = 0; v < variables && name != NONE; v++) {
                if (text.nameOf(nodes[v]) == name) {
                    gatherGroup(half == 0 ? outers[v] : inners[v], half);
                }
            }
        }

        private void gatherGroup(int g, int half) {
            int count = abreastCount[half];
            boolean isNew = g >= 0 && g < groups && count < GROUPS_MOST;
            for (int i = 0; i < count && isNew; i++) {
                isNew = abreast[half * GROUPS_MOST + i] != g;
            }
            if (isNew) {
                abreast[half * GROUPS_MOST + count] = g;
                abreastCount[half] = count + 1;
            }
        }
    }

    /** Rules, and what uses of macros give. */
    private static final class Spreader {
        private static final int USES_MOST = 1000;
        private static final int MADE_MOST = 4000;
        private static final int LISTS_MOST = 100;
        private static final int NAMES_MOST = 4096;

        private final Text text;
        private final Scopes scopes;
        private final Pattern pattern;
        private int uses;
        private int made;
        private int seen;
        private int useScope;
        private int toldScope;
        private int place;
        /** The aliases of the use, one for each name. */
        private final int[] aliases = new int[NAMES_MOST];
        private int aliased;

        Spreader(Text text, Scopes scopes) {
            this.text = text;
            this.scopes = scopes;
            this.pattern = new Pattern(text);
        }

        void begin() {
            uses = 0;
            made = 0;
        }

        boolean isRules(int root) {
            int literals = text.first(text.rest(root));
            if (text.count(root) < 2 || text.symbolAtLast(text.first(root)) != SYNTAX_RULES || !areNames(literals)) {
                return false;
            }
            int rest = text.rest(text.rest(root));
            for (int i = 0; i < Text.SIZE && text.isCons(rest); i++) {
                if (!isRule(text.first(rest), literals)) {
                    return false;
                }
                rest = text.rest(rest);
            }
            return true;
        }

        private boolean areNames(int list) {
            int rest = list;
            for (int i = 0; i < Text.SIZE && text.isCons(rest); i++) {
                if (!text.isName(text.first(rest))) {
                    return false;
                }
                rest = text.rest(rest);
            }
            return text.kind(rest) == Text.EMPTY;
        }

        private boolean isRule(int rule, int literals) {
            if (text.count(rule) != 2) {
                return false;
            }
            int head = text.first(rule);
            if (text.count(head) < 1 || !text.isName(text.first(head))) {
                return false;
            }
            seen = 0;
            pattern.begin(literals);
            return pattern.learn(text.rest(head), NONE, 0, 0) && !pattern.hasTwins()
                && isTemplate(text.first(text.rest(rule)), 0, 0);
        }

        private boolean isTemplate(int template, int around, int depth) {
            int t = template;
            for (int i = 0; i < Text.SIZE && depth < DEEPEST && text.isCons(t); i++) {
                boolean repeats = text.repeats(t);
                int before = seen;
                boolean good = isTemplate(text.first(t), repeats ? around + 1 : around, depth + 1);
                if (!good || repeats && seen == before) {
                    return false;
                }
                t = repeats ? text.rest(text.rest(t)) : text.rest(t);
            }
            int v = pattern.find(text.nameOf(t));
            if (v == NONE) {
                return text.symbolAtLast(t) != DOTS;
            }
            seen++;
            return pattern.depthOf(v) == around;
        }

        /** What the use gives; if it can't, a fault is in the text. */
        int use(int datum, int scope, int root, int told) {
            place = text.place(datum);
            if (uses >= USES_MOST) {
                text.fail(FULL, place);
                return NONE;
            }
            uses++;
            useScope = scope;
            toldScope = told;
            aliased = 0;
            pattern.begin(text.first(text.rest(root)));
            int rest = text.rest(text.rest(root));
            for (int i = 0; i < Text.SIZE && text.isCons(rest); i++) {
                int rule = text.first(rest);
                int head = text.rest(text.first(rule));
                if (fits(head, text.rest(datum), 0)) {
                    pattern.learn(head, NONE, 0, 0);
                    pattern.bindAll(head, text.rest(datum));
                    int result = make(text.first(text.rest(rule)), 0, 0);
                    if (text.fault == 0 && text.measure(result, MADE_MOST, LISTS_MOST) > MADE_MOST) {
                        text.fail(FULL, place);
                    }
                    return result;
                }
                rest = text.rest(rest);
            }
            text.fail(RULES, place);
            return NONE;
        }

        private boolean fits(int head, int datum, int depth) {
            int p = head;
            int d = datum;
            for (int i = 0; i < Text.SIZE && depth < DEEPEST && text.isCons(p); i++) {
                if (text.repeats(p)) {
                    return fitsEach(text.first(p), d, depth + 1);
                }
                if (!text.isCons(d) || !fits(text.first(p), text.first(d), depth + 1)) {
                    return false;
                }
                p = text.rest(p);
                d = text.rest(d);
            }
            if (text.isName(p)) {
                return fitsName(p, d);
            }
            return text.kind(p) == text.kind(d) && text.wordOf(p) == text.wordOf(d);
        }

        private boolean fitsEach(int head, int list, int depth) {
            int d = list;
            for (int i = 0; i < Text.SIZE && text.isCons(d); i++) {
                if (!fits(head, text.first(d), depth)) {
                    return false;
                }
                d = text.rest(d);
            }
            return text.kind(d) == Text.EMPTY;
        }

        private boolean fitsName(int p, int d) {
            if (text.symbolAtLast(p) == ANYTHING || !pattern.isLiteral(p)) {
                return true;
            }
            return text.isName(d) && scopes.meaning(d, useScope) == scopes.meaning(p, toldScope);
        }

        private boolean countMade() {
            if (made >= MADE_MOST) {
                text.fail(FULL, place);
                return false;
            }
            made++;
            return true;
        }

        /** A pair is counted ahead of its parts, so a list is made from its head on. */
        private int make(int template, int around, int depth) {
            int t = template;
            int head = NONE;
            int last = NONE;
            for (int i = 0; i < Text.SIZE && depth < DEEPEST && text.fault == 0 && text.isCons(t); i++) {
                boolean repeats = text.repeats(t);
                int times = repeats ? pattern.align(text.first(t), around) : 1;
                if (times == NONE) {
                    text.fail(RULES, place);
                }
                for (int j = 0; j < times && countMade(); j++) {
                    int pair = text.add(Text.CONS, place, 0, NONE, NONE);
                    head = head == NONE ? pair : head;
                    text.setRest(last, pair);
                    last = pair;
                    if (repeats) {
                        pattern.bindNext(around);
                    }
                    text.setFirst(pair, make(text.first(t), repeats ? around + 1 : around, depth + 1));
                }
                t = repeats ? text.rest(text.rest(t)) : text.rest(t);
            }
            int end = text.fault == 0 ? makeSimple(t) : NONE;
            text.setRest(last, end);
            return head == NONE ? end : head;
        }

        private int makeSimple(int t) {
            int v = pattern.find(text.nameOf(t));
            if (v != NONE) {
                return pattern.valueOf(v);
            }
            if (!countMade()) {
                return NONE;
            }
            if (text.isName(t)) {
                return aliasOf(t);
            }
            return text.add(text.kind(t), place, 0, text.wordOf(t), NONE);
        }

        private int aliasOf(int t) {
            int name = text.nameOf(t);
            for (int i = 0; i < aliased; i++) {
                if (text.aliasedName(aliases[i]) == name) {
                    return aliases[i];
                }
            }
            int alias = text.add(Text.ALIAS, place, text.symbolAtLast(t), name, toldScope);
            if (aliased < NAMES_MOST) {
                aliases[aliased] = alias;
                aliased++;
            }
            return alias;
        }
    }

    /**
     * From datums to words. What is still to be done for a form is a stack of tasks, not of calls, so
     * that no depth of a text is a depth of calls; its lambdas wait in a queue for their turn.
     */
    private static final class Coder {
        /** The tasks: those of keywords have the keywords' numbers. */
        private static final int FORM = 8;
        private static final int EXPRESSION = 9;
        private static final int SEQUENCE = 10;
        private static final int CALL = 11;
        private static final int OPERANDS = 12;
        private static final int PUSHED = 13;
        private static final int TESTED = 14;
        private static final int CHOSEN = 15;
        private static final int JOINED = 16;
        private static final int STORED = 17;
        private static final int DEFINED = 18;
        private static final int TOLD_RULES = 19;
        private static final int BINDINGS = 20;
        private static final int USED = 21;

        private static final int STRIDE = 6;
        private static final int TASKS_MOST = 512;
        /** Far above the tasks of a form, which has 12,288 words at most, each within 60 others. */
        private static final int STEPS_MOST = 10000000;
        private static final int WITHIN_MOST = 60;
        private static final int OPERANDS_MOST = 40;
        private static final int NAMES_MOST = 20;
        /** Each takes two words of code where it is closed. */
        private static final int LAMBDAS_MOST = (HEAP - CODE) / 4;

        /** A task's flags: 1 in tail place, 2 * within how many others, 256 * how many ribs. */
        private static final int IN_TAIL = 1;
        private static final int WITHIN = 2;
        private static final int LEVEL = 256;

        private static final int TO_VALUE = 012700;
        private static final int RETURN = 0104004;

        private final Text text;
        private final Image image;
        private final Scopes scopes;
        private final Spreader spreader;
        private final int[] tasks = new int[TASKS_MOST * STRIDE];
        private int top;
        private final int[] lambdas = new int[LAMBDAS_MOST * 4];
        private int firstLambda;
        private int lambdaCount;
        private int datum;
        private int part;
        private int scope;
        private int flags;
        private int patch;

        Coder(Text text, Image image, Scopes scopes) {
            this.text = text;
            this.image = image;
            this.scopes = scopes;
            this.spreader = new Spreader(text, scopes);
        }

        void begin() {
            spreader.begin();
        }

        void beginForm(int form) {
            top = 0;
            firstLambda = 0;
            lambdaCount = 0;
            scope = 0;
            push(FORM, form, NONE, IN_TAIL, 0);
        }

        boolean isBusy() {
            return text.fault == 0 && (top > 0 || firstLambda < lambdaCount);
        }

        void work() {
            if (top <= 0) {
                beginLambda();
                return;
            }
            top--;
            int at = top * STRIDE;
            datum = tasks[at + 1];
            part = tasks[at + 2];
            scope = tasks[at + 3];
            flags = tasks[at + 4];
            patch = tasks[at + 5];
            switch (tasks[at]) {
                case QUOTE: codeQuote(); break;
                case IF: codeIf(); break;
                case SET: codeSet(); break;
                case LAMBDA: codeLambda(); break;
                case BEGIN: codeBegin(); break;
                case DEFINE: codeDefine(); break;
                case DEFINE_SYNTAX: codeDefineSyntax(); break;
                case LET_SYNTAX: codeLetSyntax(); break;
                case FORM: codeForm(); break;
                case EXPRESSION: codeExpression(); break;
                case SEQUENCE: codeSequence(); break;
                case CALL: codeCall(); break;
                case OPERANDS: codeOperands(); break;
                case PUSHED: emit(0104000); break;
                case TESTED: codeTested(); break;
                case CHOSEN: codeChosen(); break;
                case JOINED: setWord(patch, image.codeEnd); break;
                case STORED: codeStored(); break;
                case DEFINED: codeDefined(); break;
                case TOLD_RULES: tellMacro(spreader.isRules(part)); break;
                case BINDINGS: codeBindings(patch == NONE || spreader.isRules(patch)); break;
                default:
                    int gives = spreader.use(datum, scope, scopes.rulesOf(patch), scopes.scopeOf(patch));
                    push(part, gives, NONE, flags, 0);
                    break;
            }
        }

        /** A task in the scope of the one that is done now. */
        private void push(int task, int d, int itsPart, int itsFlags, int itsPatch) {
            if (top >= TASKS_MOST) {
                text.fail(FULL, text.place(d));
                return;
            }
            int at = top * STRIDE;
            tasks[at] = task;
            tasks[at + 1] = d;
            tasks[at + 2] = itsPart;
            tasks[at + 3] = scope;
            tasks[at + 4] = itsFlags;
            tasks[at + 5] = itsPatch;
            top++;
        }

        private void fail(int kind) {
            text.fail(kind, text.place(datum));
        }

        private boolean inTail() {
            return (flags & IN_TAIL) != 0;
        }

        /** The flags of a part of the datum: within one more, in tail place only if told. */
        private int inner(boolean tail) {
            return (flags & ~IN_TAIL) + WITHIN | (tail ? flags & IN_TAIL : 0);
        }

        private void emit(int word) {
            if (text.fault == 0 && !image.addWord(word)) {
                text.fail(FULL, text.place(datum));
            }
        }

        private void emitTwo(int word, int behind) {
            emit(word);
            emit(behind);
        }

        private void setWord(int place, int word) {
            if (text.fault == 0) {
                image.machine.put(place, word);
            }
        }

        private void codeConstant(int value) {
            emit(TO_VALUE);
            emit(value);
            if (inTail()) {
                emit(RETURN);
            }
        }

        private int second() {
            return text.first(text.rest(datum));
        }

        private int third() {
            return text.first(text.rest(text.rest(datum)));
        }

        /** What the first name of a list means; NONE of all else. */
        private int meaningOfFirst() {
            int first = text.first(datum);
            if (text.count(datum) == NONE || !text.isName(first)) {
                return NONE;
            }
            return scopes.meaning(first, scope);
        }

        private void codeForm() {
            int meaning = meaningOfFirst();
            int keyword = scopes.keywordOf(meaning);
            if (scopes.isMacro(meaning)) {
                push(USED, datum, FORM, flags, meaning);
            } else if (keyword == DEFINE || keyword == DEFINE_SYNTAX) {
                push(keyword, datum, NONE, flags, 0);
            } else {
                push(EXPRESSION, datum, NONE, flags, 0);
            }
        }

        private void codeDefine() {
            int count = text.count(datum);
            int name = second();
            boolean shortened = text.isCons(name);
            int symbolName = shortened ? text.first(name) : name;
            boolean good = shortened ? count >= 3 : count == 3;
            if (!good || !text.isName(symbolName) || !scopes.isGlobal(scopes.meaning(symbolName, scope))) {
                fail(SYNTAX);
                return;
            }
            push(DEFINED, datum, text.symbolAtLast(symbolName), flags, 0);
            if (shortened) {
                int place = text.place(datum);
                int parts = text.add(Text.CONS, place, 0, text.rest(name), text.rest(text.rest(datum)));
                int lambda = text.add(Text.CONS, place, 0, text.first(datum), parts);
                push(LAMBDA, lambda, NONE, flags & ~IN_TAIL, 0);
            } else {
                push(EXPRESSION, third(), NONE, flags & ~IN_TAIL, 0);
            }
        }

        private void codeDefined() {
            int symbol = image.placeOf(part);
            emitTwo(010037, symbol + 2);
            codeConstant(symbol);
        }

        private void codeDefineSyntax() {
            boolean good = text.count(datum) == 3 && text.kind(second()) == Text.NAME;
            if (!good || text.hasAlias(third())) {
                fail(SYNTAX);
                return;
            }
            push(TOLD_RULES, datum, third(), flags, 0);
        }

        private void tellMacro(boolean isRules) {
            int symbol = text.symbolAtLast(second());
            if (!isRules) {
                text.fail(RULES, text.place(part));
            } else if (!scopes.tellMacro(symbol, part)) {
                fail(FULL);
            } else {
                codeConstant(image.placeOf(symbol));
            }
        }

        private void codeExpression() {
            if ((flags / WITHIN & 127) >= WITHIN_MOST) {
                fail(FULL);
                return;
            }
            switch (text.kind(datum)) {
                case Text.CONSTANT: codeConstant(text.wordOf(datum)); break;
                case Text.NAME:
                case Text.ALIAS: codeName(); break;
                case Text.CONS: codeList(); break;
                default: fail(SYNTAX); break;
            }
        }

        private void codeName() {
            int meaning = scopes.meaning(datum, scope);
            if (scopes.isVariable(meaning)) {
                int info = scopes.infoOf(meaning);
                int out = flags / LEVEL - (info >> 5);
                for (int i = 0; i < out && i < WITHIN_MOST; i++) {
                    emit(i == 0 ? 016100 : 016000);
                    emit(2);
                }
                emit(out == 0 ? 016100 : 016000);
                emit(4 + 2 * (info & 31));
            } else if (scopes.isGlobal(meaning)) {
                emit(013700);
                emit(image.placeOf(meaning) + 2);
                emit(001001);
                emit(0104005);
            } else {
                fail(SYNTAX);
            }
            if (inTail()) {
                emit(RETURN);
            }
        }

        /** A use, a keyword's form or a call is a task of its own, in the place of this one. */
        private void codeList() {
            int meaning = meaningOfFirst();
            int keyword = scopes.keywordOf(meaning);
            if (text.count(datum) == NONE || keyword == DEFINE || keyword == DEFINE_SYNTAX) {
                fail(SYNTAX);
            } else if (scopes.isMacro(meaning)) {
                push(USED, datum, EXPRESSION, flags, meaning);
            } else {
                push(keyword == NONE ? CALL : keyword, datum, NONE, flags, 0);
            }
        }

        private void codeCall() {
            if (text.count(datum) > OPERANDS_MOST + 1) {
                fail(SYNTAX);
                return;
            }
            if (!inTail()) {
                emitTwo(0104001, 0);
            }
            push(OPERANDS, datum, datum, flags, image.codeEnd - 2);
        }

        private void codeOperands() {
            if (text.isCons(part)) {
                push(OPERANDS, datum, text.rest(part), flags, patch);
                push(PUSHED, datum, NONE, flags, 0);
                push(EXPRESSION, text.first(part), NONE, inner(false), 0);
                return;
            }
            emit(0104003);
            if (!inTail()) {
                setWord(patch, image.codeEnd);
            }
        }

        private void codeQuote() {
            if (text.count(datum) != 2) {
                fail(SYNTAX);
                return;
            }
            int value = valueOf(second(), 0);
            codeConstant(value);
        }

        /** A constant's word; its pairs are made from its head on, each ahead of its parts. */
        private int valueOf(int d, int depth) {
            int rest = d;
            int head = NONE;
            int last = NONE;
            for (int i = 0; i < Text.SIZE && depth < DEEPEST && text.isCons(rest); i++) {
                int pair = image.addStatic(PAIR + 16 * 3, NIL, NIL);
                if (pair == NONE) {
                    fail(FULL);
                    return NIL;
                }
                head = head == NONE ? pair : head;
                if (last != NONE) {
                    image.machine.put(last + 4, pair);
                }
                last = pair;
                image.machine.put(pair + 2, valueOf(text.first(rest), depth + 1));
                rest = text.rest(rest);
            }
            int end = text.isName(rest) ? image.placeOf(text.symbolAtLast(rest)) : text.wordOf(rest);
            if (last != NONE) {
                image.machine.put(last + 4, end);
            }
            return head == NONE ? end : head;
        }

        private void codeIf() {
            int count = text.count(datum);
            if (count != 3 && count != 4) {
                fail(SYNTAX);
                return;
            }
            push(TESTED, datum, NONE, flags, 0);
            push(EXPRESSION, second(), NONE, inner(false), 0);
        }

        private void codeTested() {
            emitTwo(020027, FALSE);
            emit(001002);
            emitTwo(000137, 0);
            push(CHOSEN, datum, NONE, flags, image.codeEnd - 2);
            push(EXPRESSION, third(), NONE, inner(true), 0);
        }

        private void codeChosen() {
            if (!inTail()) {
                emitTwo(000137, 0);
                push(JOINED, datum, NONE, flags, image.codeEnd - 2);
            }
            setWord(patch, image.codeEnd);
            int otherwise = text.rest(text.rest(text.rest(datum)));
            if (text.isCons(otherwise)) {
                push(EXPRESSION, text.first(otherwise), NONE, inner(true), 0);
            } else {
                codeConstant(NOTHING);
            }
        }

        private void codeSet() {
            int meaning = scopes.meaning(second(), scope);
            if (text.count(datum) != 3 || !scopes.isVariable(meaning) && !scopes.isGlobal(meaning)) {
                fail(SYNTAX);
                return;
            }
            push(STORED, datum, meaning, flags, 0);
            push(EXPRESSION, third(), NONE, inner(false), 0);
        }

        private void codeStored() {
            if (scopes.isGlobal(part)) {
                int g = image.placeOf(part) + 2;
                emitTwo(005737, g);
                emitTwo(001001, 0104005);
                emitTwo(010037, g);
            } else {
                int info = scopes.infoOf(part);
                int out = flags / LEVEL - (info >> 5);
                for (int i = 0; i < out && i < WITHIN_MOST; i++) {
                    emitTwo(i == 0 ? 016104 : 016404, 2);
                }
                emitTwo(out == 0 ? 010061 : 010064, 4 + 2 * (info & 31));
            }
            codeConstant(NOTHING);
        }

        private void codeBegin() {
            if (text.count(datum) < 2) {
                fail(SYNTAX);
                return;
            }
            push(SEQUENCE, datum, text.rest(datum), inner(true), 0);
        }

        private void codeSequence() {
            int rest = text.rest(part);
            if (text.isCons(rest)) {
                push(SEQUENCE, datum, rest, flags, 0);
                push(EXPRESSION, text.first(part), NONE, flags & ~IN_TAIL, 0);
            } else {
                push(EXPRESSION, text.first(part), NONE, flags, 0);
            }
        }

        /** 2 * how many names, and 1 with one for the rest; NONE if they are no names of a lambda. */
        private int shapeOf(int names) {
            int n = 0;
            int rest = names;
            while (n <= NAMES_MOST && text.isCons(rest)) {
                if (!text.isName(text.first(rest)) || standsIn(names, n, text.first(rest))) {
                    return NONE;
                }
                rest = text.rest(rest);
                n++;
            }
            boolean more = text.isName(rest);
            if (n + (more ? 1 : 0) > NAMES_MOST || !more && text.kind(rest) != Text.EMPTY) {
                return NONE;
            }
            return more && standsIn(names, n, rest) ? NONE : 2 * n + (more ? 1 : 0);
        }

        private boolean standsIn(int names, int n, int name) {
            int rest = names;
            for (int i = 0; i < n; i++) {
                if (text.nameOf(text.first(rest)) == text.nameOf(name)) {
                    return true;
                }
                rest = text.rest(rest);
            }
            return false;
        }

        private void codeLambda() {
            if (text.count(datum) < 3 || shapeOf(second()) == NONE || lambdaCount >= LAMBDAS_MOST) {
                fail(SYNTAX);
                return;
            }
            emitTwo(0104002, 0);
            int at = lambdaCount * 4;
            lambdas[at] = datum;
            lambdas[at + 1] = scope;
            lambdas[at + 2] = flags;
            lambdas[at + 3] = image.codeEnd - 2;
            lambdaCount++;
            if (inTail()) {
                emit(RETURN);
            }
        }

        private void beginLambda() {
            if (firstLambda >= lambdaCount) {
                return;
            }
            int at = firstLambda * 4;
            firstLambda++;
            datum = lambdas[at];
            scope = lambdas[at + 1];
            flags = (lambdas[at + 2] & ~IN_TAIL) + WITHIN + LEVEL + IN_TAIL;
            int shape = shapeOf(second());
            int count = (shape >> 1) + (shape & 1);
            if (!scopes.hasRoom(count)) {
                fail(FULL);
                return;
            }
            setWord(lambdas[at + 3], image.codeEnd);
            emit(shape);
            int rest = second();
            for (int i = 0; i < count; i++) {
                int name = text.isCons(rest) ? text.first(rest) : rest;
                scope = scopes.tell(scope, text.nameOf(name), flags / LEVEL * 32 + i, 0);
                rest = text.rest(rest);
            }
            push(SEQUENCE, datum, text.rest(text.rest(datum)), flags, 0);
        }

        private void codeLetSyntax() {
            int bindings = second();
            int count = text.count(bindings);
            if (text.count(datum) < 3 || count == NONE || !areBindings(bindings)) {
                fail(SYNTAX);
            } else if (!scopes.hasRoom(count)) {
                fail(FULL);
            } else {
                push(BINDINGS, datum, bindings, flags, rulesOf(bindings));
            }
        }

        private boolean areBindings(int bindings) {
            int rest = bindings;
            for (int i = 0; i < Text.SIZE && text.isCons(rest); i++) {
                int binding = text.first(rest);
                if (text.count(binding) != 2 || !text.isName(text.first(binding))) {
                    return false;
                }
                rest = text.rest(rest);
            }
            return true;
        }

        /** The rules of the first binding, NONE without one. */
        private int rulesOf(int bindings) {
            return text.first(text.rest(text.first(bindings)));
        }

        /** Rules are looked at one after another; behind the last one the macros are told. */
        private void codeBindings(boolean isRules) {
            if (!isRules) {
                text.fail(RULES, text.place(patch));
            } else if (text.isCons(part)) {
                push(BINDINGS, datum, text.rest(part), flags, rulesOf(text.rest(part)));
            } else {
                tellBindings();
            }
        }

        /** The first one of a name counts, so a later one is told for no name. */
        private void tellBindings() {
            int outside = scope;
            int rest = second();
            for (int i = 0; i < Text.SIZE && text.isCons(rest); i++) {
                int name = text.first(text.first(rest));
                int told = isTold(rest, name) ? NONE : text.nameOf(name);
                scope = scopes.tell(scope, told, -1 - rulesOf(rest), outside);
                rest = text.rest(rest);
            }
            push(SEQUENCE, datum, text.rest(text.rest(datum)), inner(true), 0);
        }

        private boolean isTold(int upTo, int name) {
            int rest = second();
            for (int i = 0; i < Text.SIZE && rest != upTo && text.isCons(rest); i++) {
                if (text.nameOf(text.first(text.first(rest))) == text.nameOf(name)) {
                    return true;
                }
                rest = text.rest(rest);
            }
            return false;
        }
    }
}
