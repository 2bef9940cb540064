/** Promises 1 to 14: each call of Scheme's machine by itself, with its edges and wrong inputs. */
public final class FaceTest {
    private static final String[] NAMES = {
        "quote", "if", "set!", "lambda", "begin", "define", "define-syntax", "let-syntax", "syntax-rules",
        "...", "_", "cons", "car", "cdr", "set-car!", "set-cdr!", "eq?", "pair?", "null?", "number?",
        "symbol?", "procedure?", "boolean?", "+", "-", "*", "quotient", "remainder", "<", "=", "call/cc",
        "apply", "display", "newline", "not", "list", "error", "read",
        "let", "v", "e", "b", "c", "n", "letrec", "let*", "x", "y", "and", "a", "or", "t", "cond", "else", "d",
    };

    public static void main(String[] args) {
        newObject();
        symbols();
        feed();
        end();
        load();
        fault();
        run();
        look();
        word();
        register();
        shown();
        out();
        input();
        letter();
        reset();
        Check.finish();
    }

    private static void newObject() {
        SchemeEleven x = new SchemeEleven();
        Check.due("NONE", SchemeEleven.NONE, -1);
        int symbols = NAMES.length;
        int[] looks = {0, 1024 + 6 * symbols, 8192 + 36, 32768, 0, symbols, 0, 0, 0, 6, 0};
        for (int i = 0; i < looks.length; i++) {
            Check.due("look(" + i + ") of a new object", x.look(i), looks[i]);
        }
        for (int k = 0; k <= 8; k++) {
            Check.due("register(" + k + ") of a new object", x.register(k), 0);
        }
        Check.due("out(0)", x.out(0), -1);
        Check.due("shown(0) of 0", x.shown(0), -1);
        Check.due("run(1)", x.run(1), 0);
        Check.due("the tape", x.end(1), false);
        String[] macros = {"let", "letrec", "let*", "and", "or", "cond"};
        for (int i = 0; i < macros.length; i++) {
            int at = 8192 + 6 * i;
            Check.due("prelude's word", x.word(at), 012700);
            Check.due("prelude's symbol " + macros[i], name(x, x.word(x.word(at + 2) + 4)), macros[i]);
            Check.due("prelude's return", x.word(at + 4), 0104004);
        }
        Check.due("behind the code", x.word(8192 + 36), 0);
        Check.due("the first word of the heap", x.word(32768), 0);
    }

    private static String name(SchemeEleven x, int symbol) {
        StringBuilder all = new StringBuilder();
        for (int i = 0; x.letter(symbol, i) != -1; i++) {
            all.append((char) x.letter(symbol, i));
        }
        return all.toString();
    }

    private static void symbols() {
        SchemeEleven x = new SchemeEleven();
        for (int s = 0; s < NAMES.length; s++) {
            int place = 1024 + 6 * s;
            boolean primitive = s >= 11 && s < 38;
            Check.due("name of " + s, name(x, s), NAMES[s]);
            Check.due("head of " + NAMES[s], x.word(place), 6 + 16 * 3);
            Check.due("value of " + NAMES[s], x.word(place + 2), primitive ? 16 + 2 * (s - 11) : 0);
            Check.due("number of " + NAMES[s], x.word(place + 4), s);
        }
    }

    private static void feed() {
        SchemeEleven x = new SchemeEleven();
        Check.due("feed", x.feed(0x27282020, 0x20203120, 0x2020202E, 0x20203220, 0x20202029), 20);
        Check.due("load of fed bytes, the highest first", x.load(), 1);
        Check.finish(x);
        Check.due("fed", Check.shown(x), "(1 . 2)");
        for (int i = 1; i <= 100; i++) {
            Check.due("feed " + i, x.feed(-1, 0, 0, 0, 0), 20 * i);
        }
        Check.due("feed beyond 2,000", x.feed(0, 0, 0, 0, 0), -1);
        Check.due("it did nothing", x.end(2000), true);
        Check.due("end(1981)", x.end(1981), true);
        Check.due("feed to 2,001", x.feed(0, 0, 0, 0, 0), -1);
        Check.due("end(1980)", x.end(1980), true);
        Check.due("feed to 2,000", x.feed(0, 0, 0, 0, 0), 2000);
        Check.due("a byte of 255", x.load(), -1);
        Check.due("its fault", x.fault(0), 1);
        Check.due("its place", x.fault(1), 0);
    }

    private static void end() {
        SchemeEleven x = new SchemeEleven();
        Check.due("end(0)", x.end(0), true);
        Check.due("end(1)", x.end(1), false);
        x.feed(0x31203220, 0x33203420, 0x20202020, 0x20202020, 0x20202020);
        Check.due("end(21)", x.end(21), false);
        Check.due("end(-1)", x.end(-1), false);
        Check.due("end(20)", x.end(20), true);
        Check.due("end(3)", x.end(3), true);
        Check.due("end(4)", x.end(4), false);
        Check.due("load of the first bytes", x.load(), 2);
        Check.due("the tape is empty then", x.end(1), false);
    }

    private static void load() {
        SchemeEleven x = new SchemeEleven();
        Check.due("load of nothing", x.load(), 0);
        Check.due("load of blanks", Check.load(x, " \n ; a remark"), 0);
        Check.due("load", Check.load(x, "1 2 3"), 3);
        Check.due("load, behind those that wait", Check.load(x, "4 5"), 5);
        Check.due("load with a fault", Check.load(x, "6 (if) 7"), -1);
        Check.due("the tape is empty", x.end(1), false);
        Check.due("those that wait stay", x.look(0), 5);
        Check.due("run", Check.finish(x), 1);
        Check.due("forms that were done", x.look(7), 5);
        Check.due("the last one", Check.shown(x), "5");
    }

    private static void fault() {
        SchemeEleven x = new SchemeEleven();
        Check.due("fault(0) before any", x.fault(0), 0);
        Check.due("fault(1) before any", x.fault(1), -1);
        Check.load(x, " (if)");
        Check.due("fault(0)", x.fault(0), 2);
        Check.due("fault(1)", x.fault(1), 1);
        Check.due("fault(2)", x.fault(2), -1);
        Check.due("fault(-1)", x.fault(-1), -1);
        Check.load(x, "1");
        Check.due("fault(0) without one", x.fault(0), 0);
        Check.due("fault(1) without one", x.fault(1), -1);
    }

    private static void run() {
        SchemeEleven x = new SchemeEleven();
        Check.due("run(0)", x.run(0), -1);
        Check.due("run(20001)", x.run(20001), -1);
        Check.due("run(-5)", x.run(-5), -1);
        Check.due("run(20000), none waits", x.run(20000), 0);
        Check.load(x, "1 2 3");
        Check.due("run(20001)", x.run(20001), -1);
        Check.due("run(1)", x.run(1), 2);
        Check.due("the first instruction", x.register(0), 3);
        Check.due("run(1)", x.run(1), 2);
        Check.due("one is done", x.look(7), 1);
        Check.due("two wait", x.look(0), 2);
        Check.due("registers stay until the next one begins", x.register(0), 3);
        Check.due("run(2)", x.run(2), 2);
        Check.due("run(2), just all", x.run(2), 1);
        Check.due("run(2), none", x.run(2), 0);
        Check.load(x, "(car 1) 5");
        Check.due("an error", x.run(20000), 3);
        Check.due("all that wait are gone", x.look(0), 0);
        Check.due("run behind an error", x.run(1), 0);
        Check.load(x, "7");
        Check.due("a form behind an error", x.run(20000), 1);
        Check.due("what it gives", Check.shown(x), "7");
        Check.due("the latest error", x.look(6), 4);
    }

    private static void look() {
        SchemeEleven x = new SchemeEleven();
        Check.due("look(-1)", x.look(-1), -1);
        Check.due("look(11)", x.look(11), -1);
        int statics = x.look(1);
        int code = x.look(2);
        int symbols = x.look(5);
        Check.load(x, "'(new 1) (display 'new) (define-syntax m (syntax-rules ())) (newline)");
        Check.due("forms that wait", x.look(0), 4);
        Check.due("statics: two symbols, two pairs", x.look(1), statics + 4 * 6);
        Check.due("code", x.look(2), code + 2 * 3 + 2 * (4 + 2 + 3) + 2 * 3 + 2 * (4 + 1 + 1));
        Check.due("symbols", x.look(5), symbols + 2);
        Check.due("macros", x.look(9), 7);
        x.input(4);
        x.input(5);
        Check.due("numbers of the input", x.look(10), 2);
        Check.finish(x);
        Check.due("forms that were done", x.look(7), 4);
        Check.due("bytes written", x.look(8), 4);
        Check.due("the heap: two pushes, one push", x.look(3), 32768 + 3 * 6);
        Check.due("packed", x.look(4), 0);
        Check.due("no error", x.look(6), 0);
        Check.load(x, "(define (w) (display '(1 2 3)) (w)) (w)");
        for (int i = 0; i < 4; i++) {
            x.run(20000);
        }
        Check.due("lost bytes count, too", x.look(8) > 2000, true);
        Check.due("out(1999)", x.out(1999) != -1, true);
        Check.due("out(2000)", x.out(2000), -1);
        Check.due("it was packed", x.look(4) > 0, true);
    }

    private static void word() {
        SchemeEleven x = new SchemeEleven();
        Check.due("word(1024)", x.word(1024), 54);
        Check.due("word(1025)", x.word(1025), -1);
        Check.due("word(-2)", x.word(-2), -1);
        Check.due("word(65534)", x.word(65534), 0);
        Check.due("word(65536)", x.word(65536), -1);
        Check.due("word(0)", x.word(0), 0);
    }

    private static void register() {
        SchemeEleven x = Check.loaded("(define (f x) (set! x -5) x) (f 1)");
        Check.due("register(-1)", x.register(-1), -1);
        Check.due("register(9)", x.register(9), -1);
        Check.finish(x);
        Check.due("VAL", x.register(0), 65536 - 9);
        Check.due("CONT", x.register(2), 0);
        Check.due("ARGS", x.register(3), 6);
        Check.due("FLAGS of the last MOV", x.register(8), 8);
        Check.due("PC behind the last RETURN", x.word(x.register(7) - 2), 0104004);
    }

    private static void shown() {
        SchemeEleven x = Check.loaded("'(a -12 #t #f () . b)");
        Check.finish(x);
        Check.due("shown", Check.shown(x), "(a -12 #t #f () . b)");
        Check.due("shown(-1)", x.shown(-1), -1);
        Check.due("shown beyond", x.shown(20), -1);
        Check.due("it isn't written", x.look(8), 0);
        Check.due("out(0)", x.out(0), -1);
    }

    private static void out() {
        SchemeEleven x = Check.loaded("(display 'ab) (newline) (display 7)");
        Check.finish(x);
        Check.due("out", Check.out(x), "ab\n7");
        Check.due("out(-1)", x.out(-1), -1);
        Check.due("out(4)", x.out(4), -1);
    }

    private static void input() {
        SchemeEleven x = new SchemeEleven();
        Check.due("input(16384)", x.input(16384), false);
        Check.due("input(-16385)", x.input(-16385), false);
        for (int i = 0; i < 50; i++) {
            Check.due("input " + i, x.input(i % 2 == 0 ? 16383 : -16384), true);
        }
        Check.due("the 51st", x.input(1), false);
        Check.load(x, "(read) (read)");
        x.run(20000);
        Check.due("the second number", Check.shown(x), "-16384");
        Check.due("numbers that are left", x.look(10), 48);
        Check.due("input again", x.input(1), true);
        SchemeEleven y = Check.loaded("(read)");
        Check.finish(y);
        Check.due("read without one", Check.shown(y), "#f");
    }

    private static void letter() {
        SchemeEleven x = new SchemeEleven();
        Check.due("letter(0, 0)", x.letter(0, 0), 'q');
        Check.due("letter(0, 4)", x.letter(0, 4), 'e');
        Check.due("letter(0, 5)", x.letter(0, 5), -1);
        Check.due("letter(0, -1)", x.letter(0, -1), -1);
        Check.due("letter(-1, 0)", x.letter(-1, 0), -1);
        int symbols = x.look(5);
        Check.due("letter of no symbol", x.letter(symbols, 0), -1);
        Check.load(x, "'abcdefghijklm");
        Check.due("its 13th letter", x.letter(symbols, 12), 'm');
        Check.due("its 14th letter", x.letter(symbols, 13), -1);
        Check.load(x, "'other )");
        Check.due("a text with a fault has no symbols", x.letter(symbols + 1, 0), -1);
    }

    private static void reset() {
        SchemeEleven x = new SchemeEleven();
        SchemeEleven fresh = new SchemeEleven();
        x.poke(0, 5);
        x.set(3, 7);
        x.input(3);
        Check.load(x, "(define-syntax let (syntax-rules ())) (define q '(1 2)) (display q) (list q q) (car 1) 5");
        Check.finish(x);
        Check.load(x, "1 2");
        Check.load(x, "(if)");
        x.feed(0x31203220, 0x20202020, 0x20202020, 0x20202020, 0x20202020);
        x.reset();
        for (int i = 0; i <= 10; i++) {
            Check.due("look(" + i + ") behind reset", x.look(i), fresh.look(i));
        }
        for (int k = 0; k <= 8; k++) {
            Check.due("register(" + k + ") behind reset", x.register(k), 0);
        }
        long differ = 0;
        for (int place = 0; place < 65536; place += 2) {
            differ += x.word(place) == fresh.word(place) ? 0 : 1;
        }
        Check.due("words that are not as at first", differ, 0);
        Check.due("out(0)", x.out(0), -1);
        Check.due("fault(0)", x.fault(0), 0);
        Check.due("fault(1)", x.fault(1), -1);
        Check.due("the bench stays", x.peek(0), 5);
        Check.due("its registers, too", x.held(3), 7);
        Check.due("the tape stays", x.load(), 2);
        Check.finish(x);
        Check.load(x, "(let ((a 1)) a)");
        Check.due("let is as at first", Check.finish(x), 1);
    }
}
