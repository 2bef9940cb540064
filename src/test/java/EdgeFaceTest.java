/** The edges that the promises name, each sentence by itself: too small, too large, empty, full, refused. */
public final class EdgeFaceTest {
    private static final int NONE = SchemeEleven.NONE;
    private static final int LEAST = Integer.MIN_VALUE;
    private static final int GREATEST = Integer.MAX_VALUE;

    public static void main(String[] args) {
        emptyAtFirst();
        benchOfItsOwn();
        feedOrder();
        feedFull();
        endBounds();
        loadEmpty();
        loadRefused();
        faultBefore();
        faultOthers();
        runBounds();
        runMost();
        runAnswers();
        lookOthers();
        lookUnderWay();
        lookError();
        lookWritten();
        lookGoesRound();
        wordBounds();
        registerBounds();
        shownBounds();
        outBounds();
        outKept();
        inputBounds();
        inputFull();
        letterBounds();
        resetAll();
        resetLeaves();
        pokeBounds();
        setBounds();
        goBounds();
        goStops();
        peekBounds();
        heldBounds();
        callsToTheLast();
        Check.finish();
    }

    private static void emptyAtFirst() {
        Check.sentence("The PRELUDE alone, nothing on the tape");
        SchemeEleven x = new SchemeEleven();
        Check.due("end(1): nothing on the tape", x.end(1), false);
        Check.due("load()", x.load(), 0);
        Check.due("run(20000)", x.run(20000), 0);
        Check.due("macros", x.look(9), 6);
        Check.due("code: three words for each", x.look(2), 8192 + 6 * 6);
        Check.due("statics: the names alone", x.look(1), 1024 + 6 * x.look(5));
        Check.due("objects", x.look(3), 32768);
        int sum = 0;
        for (int place = 0; place < 65536; place += 2) {
            boolean told = place >= 1024 && place < x.look(1) || place >= 8192 && place < x.look(2);
            sum |= told ? 0 : x.word(place);
        }
        Check.due("all other words", sum, 0);
    }

    private static void benchOfItsOwn() {
        Check.sentence("the BENCH, another machine, has 8192 bytes");
        SchemeEleven x = new SchemeEleven();
        Check.due("poke(1024)", x.poke(1024, 7), true);
        Check.due("word(1024)", x.word(1024), 54);
        Check.due("peek(8190)", x.peek(8190), 0);
        Check.due("peek(8192)", x.peek(8192), NONE);
        x.set(0, 5);
        Check.due("register(0)", x.register(0), 0);
        Check.load(x, "7");
        x.run(20000);
        Check.due("held(0)", x.held(0), 5);
        Check.due("held(7)", x.held(7), 0);
    }

    private static void feedOrder() {
        Check.sentence("Twenty bytes come behind those on the tape, of each number the highest first: how many there are");
        SchemeEleven x = new SchemeEleven();
        Check.due("the first feed", x.feed(0x20202027, 0x61626364, 0x65666768, 0x696a6b6c, 0x6d202020), 20);
        Check.due("the second one", x.feed(0x31303030, 0x20202020, 0x20202020, 0x20202020, 0x2020202a), 40);
        Check.due("load", x.load(), 3);
        x.run(2);
        Check.due("the first form", Check.shown(x), "abcdefghijklm");
        x.run(2);
        Check.due("the second one", Check.shown(x), "1000");
        Check.sentence("Twenty bytes come behind those on the tape, of each number the highest first");
        x.feed(0x20202080, 0x20202020, 0x20202020, 0x20202020, 0x20202020);
        Check.due("a byte of 128", x.load(), NONE);
        Check.due("its place", x.fault(1), 3);
        x.feed(0xff202020, 0x20202020, 0x20202020, 0x20202020, 0x20202020);
        Check.due("a byte of 255", x.load(), NONE);
        Check.due("its place", x.fault(1), 0);
        x.feed(0x20202020, 0x20202020, 0x20202020, 0x20202020, 0x202020ff);
        x.load();
        Check.due("the place of the twentieth byte", x.fault(1), 19);
    }

    private static void feedFull() {
        Check.sentence("NONE, doing nothing, when there would be more than 2,000");
        SchemeEleven x = new SchemeEleven();
        for (int i = 1; i < 100; i++) {
            x.feed(0x20202020, 0x20202020, 0x20202020, 0x20202020, 0x20202020);
        }
        Check.due("feed to 2,000", x.feed(0x20202020, 0x20202020, 0x20202020, 0x20202020, 0x20202037), 2000);
        Check.due("feed to 2,020", x.feed(0x29292929, 0x29292929, 0x29292929, 0x29292929, 0x29292929), NONE);
        Check.due("end(2001)", x.end(2001), false);
        Check.due("load", x.load(), 1);
        Check.finish(x);
        Check.due("the tape was as before", Check.shown(x), "7");
        for (int i = 0; i < 100; i++) {
            x.feed(0x20202020, 0x20202020, 0x20202020, 0x20202020, 0x20202020);
        }
        Check.due("end(1981)", x.end(1981), true);
        Check.due("feed to 2,001", x.feed(0x29292929, 0x29292929, 0x29292929, 0x29292929, 0x29292929), NONE);
        Check.due("end(1982)", x.end(1982), false);
        Check.due("end(1980)", x.end(1980), true);
        Check.due("feed to 2,000 again", x.feed(0x31203220, 0x33202020, 0x20202020, 0x20202020, 0x20202034), 2000);
        Check.due("load", x.load(), 4);
    }

    private static void endBounds() {
        Check.sentence("false when it has not so many, or n is below 0");
        SchemeEleven x = new SchemeEleven();
        Check.due("end(0) of an empty tape", x.end(0), true);
        Check.due("end(1) of an empty tape", x.end(1), false);
        x.feed(0x31203220, 0x33203420, 0x35203620, 0x37203820, 0x39203020);
        int[] wrong = {21, -1, LEAST, GREATEST, 2000};
        for (int n : wrong) {
            Check.due("end(" + n + ")", x.end(n), false);
        }
        Check.due("end(20), just all", x.end(20), true);
        Check.sentence("The tape has its first n bytes alone: true");
        Check.due("end(5)", x.end(5), true);
        Check.due("end(6)", x.end(6), false);
        Check.due("bytes come behind the fifth", x.feed(0x20203120, 0x32202020, 0x20202020, 0x20202020, 0x20202020), 25);
        Check.due("load", x.load(), 5);
        x.feed(0x31203220, 0x33203420, 0x35203620, 0x37203820, 0x39203020);
        Check.due("end(0)", x.end(0), true);
        Check.due("load of nothing", x.load(), 5);
        // what lay behind the first n bytes is no part of a token
        String[] texts = {"-5", "#tt", "'abc", "165", "- 5", "(1) ;\n2"};
        int[] ends = {1, 2, 3, 2, 1, 5};
        String[] gives = {"#p", "#t", "ab", "16", "#p", "1"};
        for (int i = 0; i < texts.length; i++) {
            SchemeEleven y = new SchemeEleven();
            Check.tape(y, texts[i]);
            y.end(ends[i]);
            Check.due("load of " + ends[i] + " bytes of " + texts[i], y.load(), 1);
            y.run(1);
            Check.due("what it is", Check.shown(y), gives[i]);
        }
    }

    private static void loadEmpty() {
        Check.sentence("The tape, which is empty then, is a TEXT: how many FORMS wait");
        SchemeEleven x = new SchemeEleven();
        Check.due("load of an empty tape", x.load(), 0);
        Check.due("load of a remark", Check.load(x, ";"), 0);
        Check.due("load", Check.load(x, "1"), 1);
        Check.due("end(1)", x.end(1), false);
        Check.due("load of an empty tape, one waits", x.load(), 1);
        x.run(1);
        Check.due("load, one is under way", x.load(), 1);
        Check.due("load, one is under way", Check.load(x, "2"), 2);
        x.run(1);
        Check.due("load, the first one is done", x.load(), 1);
        Check.load(x, "(");
        Check.due("end(1) behind a fault", x.end(1), false);
    }

    private static void loadRefused() {
        Check.sentence("NONE with a FAULT (those that wait stay)");
        String[] texts = {"(", "(if)", "(let)", "(define-syntax m 5)", "1 2 )"};
        for (String text : texts) {
            SchemeEleven x = Check.loaded("1 (list 2 3)");
            x.run(1);
            Check.due("load of " + text, Check.load(x, text), NONE);
            Check.due("forms that wait", x.look(0), 2);
            Check.due("run", x.run(20000), 1);
            Check.due("the last one", Check.shown(x), "(2 3)");
        }
    }

    private static void faultBefore() {
        Check.sentence("its FAULT (what 0; 0 without one, or before any), its PLACE (1; NONE without)");
        SchemeEleven x = new SchemeEleven();
        Check.due("fault(0) before any load", x.fault(0), 0);
        Check.due("fault(1) before any load", x.fault(1), NONE);
        x.load();
        Check.due("fault(0) of nothing", x.fault(0), 0);
        Check.due("fault(1) of nothing", x.fault(1), NONE);
        String[] texts = {")", "(if)", "(let)", "(a" + Check.times(" (lambda () 1)", 40) + ")"};
        int[] kinds = {1, 2, 3, 0};
        for (int i = 0; i < texts.length; i++) {
            Check.load(x, texts[i]);
            Check.due("fault(0) of " + texts[i], x.fault(0), kinds[i]);
            Check.due("fault(1) of " + texts[i], x.fault(1), kinds[i] == 0 ? NONE : 0);
        }
        Check.sentence("Of the latest load()");
        Check.load(x, " (if)");
        x.run(20000);
        x.feed(1, 2, 3, 4, 5);
        Check.due("fault(0) behind other calls", x.fault(0), 2);
        Check.due("fault(1) behind other calls", x.fault(1), 1);
        Check.load(x, "1");
        Check.due("fault(0) of a good text", x.fault(0), 0);
        Check.due("fault(1) of a good text", x.fault(1), NONE);
    }

    private static void faultOthers() {
        Check.sentence("NONE for another what");
        SchemeEleven x = new SchemeEleven();
        Check.load(x, "(if)");
        for (int what : new int[] {-1, 2, LEAST, GREATEST}) {
            Check.due("fault(" + what + ")", x.fault(what), NONE);
        }
    }

    private static void runBounds() {
        Check.sentence("At most n instructions (1 .. 20000; NONE for another n) of the FORMS that wait");
        SchemeEleven x = new SchemeEleven();
        int[] wrong = {0, -1, 20001, LEAST, GREATEST};
        for (int n : wrong) {
            Check.due("run(" + n + "), none waits", x.run(n), NONE);
        }
        Check.load(x, "1 2");
        for (int n : wrong) {
            Check.due("run(" + n + ")", x.run(n), NONE);
            Check.due("forms that wait", x.look(0), 2);
            Check.due("PC", x.register(7), 0);
        }
        Check.due("run(1)", x.run(1), 2);
        Check.due("PC behind one instruction", x.register(7), 8192 + 36 + 4);
        Check.due("run(20000)", x.run(20000), 1);
    }

    /** Ten instructions come ahead of the loop's first turn, a turn has fourteen. */
    private static void runMost() {
        Check.sentence("At most n instructions (1 .. 20000");
        SchemeEleven x = Check.loaded("(define (g n) (g (+ n 1))) (g 0)");
        SchemeEleven y = Check.loaded("(define (g n) (g (+ n 1))) (g 0)");
        Check.due("run(20000)", x.run(20000), 2);
        Check.due("run(19999)", y.run(19999), 2);
        Check.due("one instruction is left to do", y.register(7) == x.register(7), false);
        Check.due("run(1)", y.run(1), 2);
        for (int k = 0; k <= 8; k++) {
            Check.due("register(" + k + ")", y.register(k), x.register(k));
        }
        Check.due("objects", y.look(3), x.look(3));
        Check.due("packed", y.look(4), x.look(4));
        Check.due("turns that were done", x.word(x.register(1) + 4), 2 * ((20000 - 10) / 14) + 1);
    }

    private static void runAnswers() {
        Check.sentence("0 none waits, 1 all are DONE, 2 there are more, 3 an ERROR");
        SchemeEleven x = new SchemeEleven();
        Check.due("none waits", x.run(1), 0);
        Check.load(x, "1 2");
        Check.due("within the first", x.run(1), 2);
        Check.due("the first is done, one waits", x.run(1), 2);
        Check.due("within the last", x.run(1), 2);
        Check.due("just all", x.run(1), 1);
        Check.due("none waits then", x.run(1), 0);
        Check.load(x, "1 2");
        Check.due("four instructions, one less", x.run(3), 2);
        x.run(1);
        Check.load(x, "1 2");
        Check.due("just four", x.run(4), 1);
        Check.load(x, "unknown 2");
        Check.due("two instructions ahead of the error", x.run(2), 2);
        Check.due("the error", x.run(1), 3);
        Check.due("none waits behind it", x.run(1), 0);
        Check.load(x, "1 unknown");
        Check.due("an error in the last one", x.run(20000), 3);
    }

    private static void lookOthers() {
        Check.sentence("10 numbers of the INPUT. NONE for others.");
        SchemeEleven x = new SchemeEleven();
        for (int what : new int[] {-1, 11, LEAST, GREATEST}) {
            Check.due("look(" + what + ")", x.look(what), NONE);
        }
        Check.due("look(10)", x.look(10), 0);
    }

    private static void lookUnderWay() {
        Check.sentence("0 FORMS that wait (with the one that is under way)");
        SchemeEleven x = Check.loaded("1 2 3");
        int[] waits = {3, 3, 2, 2, 1, 1, 0};
        int[] done = {0, 0, 1, 1, 2, 2, 3};
        for (int i = 0; i < waits.length; i++) {
            Check.due("forms that wait behind " + i + " instructions", x.look(0), waits[i]);
            Check.due("forms that were done behind " + i, x.look(7), done[i]);
            x.run(1);
        }
    }

    private static void lookError() {
        Check.sentence("6 the latest ERROR (0: none was)");
        SchemeEleven x = new SchemeEleven();
        Check.due("at first", x.look(6), 0);
        String[] texts = {"unknown", "(5)", "(car)", "(car 5)", "(quotient 1 0)", "(error 1)"};
        int[] errors = {1, 2, 3, 4, 5, 7};
        for (int i = 0; i < texts.length; i++) {
            Check.load(x, texts[i]);
            x.run(20000);
            Check.due("error of " + texts[i], x.look(6), errors[i]);
            Check.load(x, "1");
            x.run(20000);
            Check.due("it is still the latest", x.look(6), errors[i]);
        }
    }

    private static void lookWritten() {
        Check.sentence("8 bytes WRITTEN (also lost ones; an int that goes round)");
        SchemeEleven x = Check.loaded("(define (w n) (if (= n 0) 0 (begin (display 'abcdefghij) (w (- n 1))))) (w 200) (newline) (w 1)");
        Check.due("nothing at first", x.look(8), 0);
        for (int i = 0; i < 100 && x.look(7) < 2; i++) {
            x.run(100);
        }
        Check.due("2,000 bytes at least", x.look(8) >= 2000, true);
        Check.finish(x);
        Check.due("2,011 bytes", x.look(8), 2011);
    }

    /**
     * 300 displays of 1,921 bytes are 1,808 instructions: so many that the count is beyond an int
     * in fewer than 512 calls.
     */
    private static void lookGoesRound() {
        Check.sentence("an int that goes round");
        SchemeEleven x = new SchemeEleven();
        String nine = Check.times("(", 9) + "abcdefghijklm" + Check.times(")", 9);
        Check.load(x, "(define (b n y) (if (= n 0) '() (cons y (b (- n 1) y)))) (define x (b 60 '" + nine + "))");
        Check.load(x, "(define (w d x)" + Check.times("(d x)", 300) + "(w d x))");
        Check.finish(x);
        Check.load(x, "(w display x)");
        x.run(10);
        Check.due("nothing is written yet", x.look(8), 0);
        x.run(6);
        Check.due("the first one", x.look(8), 1921);
        x.run(1808 - 6);
        Check.due("a turn", x.look(8), 300 * 1921);
        for (int i = 0; i < 372; i++) {
            x.run(18080);
        }
        Check.due("372 times 3,000 more", x.look(8), 300 * 1921 + 372 * 3000 * 1921);
        x.run(18080);
        Check.due("round", x.look(8), (int) (300L * 1921 + 373L * 3000 * 1921));
        Check.due("it is below 0", x.look(8) < 0, true);
        Check.due("2,000 are kept", x.out(1999) != NONE && x.out(2000) == NONE, true);
    }

    private static void wordBounds() {
        Check.sentence("The word at an even place of Scheme's memory; NONE without.");
        SchemeEleven x = new SchemeEleven();
        Check.due("word(0)", x.word(0), 0);
        Check.due("word(65534)", x.word(65534), 0);
        for (int place : new int[] {1, 1025, 65535, 65536, 65538, -1, -2, LEAST, GREATEST, GREATEST - 1}) {
            Check.due("word(" + place + ")", x.word(place), NONE);
        }
    }

    private static void registerBounds() {
        Check.sentence("8: its FLAGS, 8 N, 4 Z, 2 V, 1 C. NONE for others.");
        SchemeEleven x = Check.loaded("-1 (if #f 1 2) (if #t 1 2)");
        for (int k : new int[] {-1, 9, LEAST, GREATEST}) {
            Check.due("register(" + k + ")", x.register(k), NONE);
        }
        Check.due("at first", x.register(8), 0);
        x.run(2);
        Check.due("N of -1", x.register(8), 8);
        x.run(2);
        Check.due("Z of 2 with 2", x.register(8), 4);
        Check.due("the rest of it", x.run(3), 2);
        x.run(2);
        Check.due("none of 4 with 2", x.register(8), 0);
        Check.due("R6, which nothing uses", x.register(6), 0);
    }

    private static void shownBounds() {
        Check.sentence("Byte i of R0 as it would be WRITTEN; NONE without.");
        SchemeEleven x = new SchemeEleven();
        Check.due("R0 is 0: another word, nothing", x.shown(0), NONE);
        Check.load(x, "-12");
        x.run(1);
        Check.due("shown(0)", x.shown(0), '-');
        Check.due("shown(2)", x.shown(2), '2');
        for (int i : new int[] {3, -1, LEAST, GREATEST}) {
            Check.due("shown(" + i + ")", x.shown(i), NONE);
        }
        Check.due("nothing was written", x.look(8), 0);
    }

    private static void outBounds() {
        Check.sentence("Byte i of what was WRITTEN by FORMS (the first 2,000 are kept); NONE without.");
        SchemeEleven x = new SchemeEleven();
        Check.due("out(0) at first", x.out(0), NONE);
        Check.load(x, "(display 'ab)");
        x.run(20000);
        Check.due("out(0)", x.out(0), 'a');
        Check.due("out(1)", x.out(1), 'b');
        for (int i : new int[] {2, -1, LEAST, GREATEST}) {
            Check.due("out(" + i + ")", x.out(i), NONE);
        }
    }

    private static void outKept() {
        Check.sentence("the first 2,000 are kept");
        SchemeEleven x = Check.loaded("(define (w n) (if (= n 0) 0 (begin (display 'abcde) (w (- n 1))))) (display 'abc) (w 399) (display 'yzx)");
        Check.finish(x);
        Check.due("bytes", x.look(8), 3 + 1995 + 3);
        Check.due("out(1997), the last but two", x.out(1997), 'e');
        Check.due("out(1998)", x.out(1998), 'y');
        Check.due("out(1999), of a word that is cut", x.out(1999), 'z');
        Check.due("out(2000), lost", x.out(2000), NONE);
        Check.due("the first one", x.out(0), 'a');
    }

    private static void inputBounds() {
        Check.sentence("A NUMBER comes to the INPUT: true; false if it is none");
        SchemeEleven x = Check.loaded("(read) (read) (read) (read)");
        int[] wrong = {16384, -16385, LEAST, GREATEST, 32768, 65536};
        for (int v : wrong) {
            Check.due("input(" + v + ")", x.input(v), false);
            Check.due("numbers", x.look(10), 0);
        }
        int[] right = {16383, -16384, 0};
        for (int v : right) {
            Check.due("input(" + v + ")", x.input(v), true);
        }
        for (int v : right) {
            x.run(4);
            Check.due("read", Check.shown(x), String.valueOf(v));
        }
        x.run(4);
        Check.due("read of none", Check.shown(x), "#f");
    }

    private static void inputFull() {
        Check.sentence("false if it is none, or there are 50");
        SchemeEleven x = Check.loaded("(define (r n) (if (= n 0) (read) (begin (read) (r (- n 1))))) (read) (r 49)");
        for (int i = 0; i < 50; i++) {
            Check.due("input(" + i + ")", x.input(i), true);
        }
        Check.due("the 51st", x.input(50), false);
        Check.due("there are 50", x.look(10), 50);
        x.run(4 + 4);
        Check.due("49 are left", x.look(10), 49);
        Check.due("one more", x.input(99), true);
        Check.due("and no other", x.input(100), false);
        Check.finish(x);
        Check.due("the last one", Check.shown(x), "99");
        Check.due("none is left", x.look(10), 0);
    }

    private static void letterBounds() {
        Check.sentence("Letter i of SYMBOL s; NONE without.");
        SchemeEleven x = new SchemeEleven();
        int symbols = x.look(5);
        Check.due("the first one's first", x.letter(0, 0), 'q');
        Check.due("the last one's first", x.letter(symbols - 1, 0), 'd');
        Check.due("the last one's second", x.letter(symbols - 1, 1), NONE);
        for (int s : new int[] {-1, symbols, 300, LEAST, GREATEST}) {
            Check.due("letter(" + s + ", 0)", x.letter(s, 0), NONE);
        }
        for (int i : new int[] {-1, 5, 13, LEAST, GREATEST}) {
            Check.due("letter(0, " + i + ")", x.letter(0, i), NONE);
        }
        Check.load(x, "'abcdefghijklm");
        Check.due("the last of 13", x.letter(symbols, 12), 'm');
        Check.due("behind it", x.letter(symbols, 13), NONE);
    }

    private static void resetAll() {
        Check.sentence("Scheme's machine is as at first");
        SchemeEleven x = Check.loaded("(define-syntax let (syntax-rules ())) (define car 'new) (define (g n) (g (+ n 1))) (display '(1 2)) (g 0)");
        x.input(5);
        x.run(20000);
        Check.due("it was packed", x.look(4) > 0, true);
        x.reset();
        SchemeEleven fresh = new SchemeEleven();
        for (int what = 0; what <= 10; what++) {
            Check.due("look(" + what + ")", x.look(what), fresh.look(what));
        }
        for (int k = 0; k <= 8; k++) {
            Check.due("register(" + k + ")", x.register(k), 0);
        }
        int unlike = 0;
        for (int place = 0; place < 65536; place += 2) {
            unlike += x.word(place) == fresh.word(place) ? 0 : 1;
        }
        Check.due("words that are not as at first", unlike, 0);
        Check.due("none waits", x.run(20000), 0);
        Check.due("the new symbol's letter", x.letter(fresh.look(5), 0), NONE);
        Check.load(x, "(let ((a (read))) (car (list a)))");
        Check.due("run", x.run(20000), 1);
        Check.due("let, car and the input are as at first", Check.shown(x), "#f");
        for (String text : new String[] {"-1", "(if #f 1 2)"}) {
            x = Check.loaded(text);
            x.run(2);
            Check.due("a flag is 1", x.register(8) != 0, true);
            x.reset();
            Check.due("the flags of " + text, x.register(8), 0);
        }
        Check.sentence("nothing was WRITTEN, no ERROR, no FAULT was");
        x = Check.loaded("(display 'ab) (car 1)");
        x.run(20000);
        Check.load(x, " (if)");
        x.reset();
        Check.due("bytes written", x.look(8), 0);
        Check.due("out(0)", x.out(0), NONE);
        Check.due("the latest error", x.look(6), 0);
        Check.due("fault(0)", x.fault(0), 0);
        Check.due("fault(1)", x.fault(1), NONE);
    }

    private static void resetLeaves() {
        Check.sentence("the tape, the BENCH stay");
        SchemeEleven x = new SchemeEleven();
        x.poke(0, 0240);
        x.poke(2, 0240);
        x.set(5, 77);
        x.set(8, 9);
        x.go(2);
        x.feed(0x31203220, 0x33202020, 0x20202020, 0x20202020, 0x20202020);
        x.reset();
        Check.due("peek(2)", x.peek(2), 0240);
        Check.due("held(5)", x.held(5), 77);
        Check.due("held(7)", x.held(7), 4);
        Check.due("held(8)", x.held(8), 9);
        Check.due("held(9)", x.held(9), 2);
        Check.due("twenty bytes", x.end(20), true);
        Check.due("no more", x.end(21), false);
        Check.due("load", x.load(), 3);
        x.reset();
        x.reset();
        Check.due("twice, behind a load", x.look(0), 0);
        Check.due("run", x.run(1), 0);
    }

    private static void pokeBounds() {
        Check.sentence("The word at an even place of the BENCH becomes v's lowest sixteen bits: true; false without such.");
        SchemeEleven x = new SchemeEleven();
        for (int place : new int[] {1, 8191, 8192, 8193, 65536, -1, -2, LEAST, GREATEST, GREATEST - 1}) {
            Check.due("poke(" + place + ")", x.poke(place, 5), false);
        }
        for (int place : new int[] {0, 2, 8188, 8190}) {
            Check.due("peek(" + place + ")", x.peek(place), 0);
            Check.due("poke(" + place + ")", x.poke(place, place + 65536 + 1), true);
            Check.due("peek(" + place + ")", x.peek(place), place + 1);
        }
        int[] values = {65535, 65536, -1, LEAST, GREATEST, -65536};
        int[] words = {65535, 0, 65535, 0, 65535, 0};
        for (int i = 0; i < values.length; i++) {
            x.poke(4, values[i]);
            Check.due("poke of " + values[i], x.peek(4), words[i]);
        }
        Check.due("its neighbours", x.peek(2) + x.peek(6), 3);
    }

    private static void setBounds() {
        Check.sentence("Its register k becomes that; 8: its FLAGS become the lowest four bits. False without such.");
        SchemeEleven x = new SchemeEleven();
        for (int k : new int[] {-1, 9, LEAST, GREATEST}) {
            Check.due("set(" + k + ")", x.set(k, 5), false);
        }
        for (int k = 0; k <= 9; k++) {
            Check.due("held(" + k + ") is as at first", x.held(k), 0);
        }
        for (int k = 0; k <= 7; k++) {
            Check.due("set(" + k + ")", x.set(k, -1 - k), true);
            Check.due("held(" + k + ")", x.held(k), 65535 - k);
            x.set(k, 65536 + k);
            Check.due("held(" + k + ")", x.held(k), k);
        }
        Check.due("set(8, 16)", x.set(8, 16), true);
        Check.due("held(8)", x.held(8), 0);
        Check.due("set(8, -1)", x.set(8, -1), true);
        Check.due("held(8)", x.held(8), 15);
        for (int bit = 1; bit <= 8; bit *= 2) {
            x.set(8, bit);
            Check.due("held(8)", x.held(8), bit);
        }
    }

    private static void goBounds() {
        Check.sentence("At most n instructions (1 .. 5000; NONE for another n) of the BENCH");
        SchemeEleven x = new SchemeEleven();
        x.poke(0, 05200);
        x.poke(2, 0776);
        for (int n : new int[] {0, -1, 5001, LEAST, GREATEST}) {
            Check.due("go(" + n + ")", x.go(n), NONE);
            Check.due("held(7)", x.held(7), 0);
            Check.due("held(0)", x.held(0), 0);
        }
        Check.due("go(1)", x.go(1), 0);
        Check.due("one INC", x.held(0), 1);
        Check.due("PC", x.held(7), 2);
        Check.due("go(5000)", x.go(5000), 0);
        Check.due("2,500 INC more", x.held(0), 2501);
        Check.due("PC", x.held(7), 2);
        Check.due("held(9)", x.held(9), 5000);
    }

    private static void goStops() {
        Check.sentence("0 they were done, or why it STOPS, 1 to 4 (that one counts)");
        int[] words = {0, 1, 05011, 0104000};
        for (int why = 1; why <= 4; why++) {
            SchemeEleven x = new SchemeEleven();
            x.poke(0, 0240);
            x.poke(2, 0240);
            x.poke(4, words[why - 1]);
            x.set(1, 1);
            Check.due("go(2), just ahead of it", x.go(2), 0);
            Check.due("held(9)", x.held(9), 2);
            Check.due("go(1)", x.go(1), why);
            Check.due("held(9)", x.held(9), 1);
            x.set(7, 0);
            Check.due("go(3)", x.go(3), why);
            Check.due("held(9)", x.held(9), 3);
            x.set(7, 0);
            Check.due("go(5000)", x.go(5000), why);
            Check.due("held(9)", x.held(9), 3);
        }
    }

    private static void peekBounds() {
        Check.sentence("The BENCH's word at an even place; NONE without.");
        SchemeEleven x = new SchemeEleven();
        Check.due("peek(0)", x.peek(0), 0);
        Check.due("peek(8190)", x.peek(8190), 0);
        for (int place : new int[] {1, 8191, 8192, 65534, 65536, -1, -2, LEAST, GREATEST, GREATEST - 1}) {
            Check.due("peek(" + place + ")", x.peek(place), NONE);
        }
    }

    private static void heldBounds() {
        Check.sentence("9: how many instructions the latest go() did (with the one that stopped it; 0 before any). NONE for others.");
        SchemeEleven x = new SchemeEleven();
        Check.due("held(9) before any go", x.held(9), 0);
        for (int k : new int[] {-1, 10, LEAST, GREATEST}) {
            Check.due("held(" + k + ")", x.held(k), NONE);
        }
        Check.due("go(7) of a HALT", x.go(7), 1);
        Check.due("held(9)", x.held(9), 1);
        x.set(7, 8191);
        Check.due("go(7) at an odd place", x.go(7), 3);
        Check.due("held(9): what has no word counts, too", x.held(9), 1);
    }

    private static void callsToTheLast() {
        Check.sentence("An object is used for at most 512 calls after it has been made");
        SchemeEleven x = new SchemeEleven();
        int right = 0;
        for (int i = 1; i <= 128; i++) {
            right += x.feed(0x37202020, 0x20202020, 0x20202020, 0x20202020, 0x20202020) == 20 ? 1 : 0;
            right += x.load() == 1 ? 1 : 0;
            right += x.run(2) == 1 ? 1 : 0;
            right += x.look(7) == i ? 1 : 0;
        }
        Check.due("right answers of 512 calls", right, 512);
    }
}
