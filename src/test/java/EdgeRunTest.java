/** The edges that parts 2 and 6 of the document name: bounds of numbers, counts, a full heap, what is written. */
public final class EdgeRunTest {
    private static final int NONE = SchemeEleven.NONE;
    private static final int HEAP = 32768;
    private static final int HEAP_END = 49152;
    private static final int WORDS = 8192;

    public static void main(String[] args) {
        numberWords();
        primitiveWords();
        heapJustFull();
        heapTooFull();
        togetherJustFull();
        togetherTooFull();
        packed();
        oddWordsStay();
        oddWordsReachNothing();
        otherRegistersStay();
        objectsFollow();
        packedToTheLast();
        pushFull();
        frameFull();
        closeFull();
        callFull();
        consFull();
        continuationFull();
        applyFull();
        listFull();
        errorsAheadOfFull();
        formDone();
        argumentsGo();
        closureCounts();
        continuationCounts();
        noProcedures();
        primitiveCounts();
        errorOrder();
        sums();
        products();
        quotients();
        steps();
        comparisons();
        kinds();
        pairsOnly();
        applyBounds();
        emptyList();
        emptyInput();
        failedCalls();
        raised();
        writtenWords();
        writtenDeep();
        writtenMany();
        formBegins();
        errorEnds();
        Check.finish();
    }

    private static int word(String text) {
        SchemeEleven x = Check.loaded(text);
        x.run(1);
        return x.register(0);
    }

    private static void numberWords() {
        Check.sentence("odd: the NUMBER (SIGNED - 1) / 2, -16384 .. 16383; 2 #f, 4 #t, 6 (), 8 nothing");
        Check.due("16383", word("16383"), 32767);
        Check.due("-16384", word("-16384"), 32769);
        Check.due("0", word("0"), 1);
        Check.due("-1", word("-1"), 65535);
        Check.due("#f", word("#f"), 2);
        Check.due("#t", word("#t"), 4);
        Check.due("()", word("'()"), 6);
        SchemeEleven x = Check.loaded("(if #f 1)");
        x.run(20000);
        Check.due("nothing", x.register(0), 8);
        Check.gives("(list 16383 -16384)", "(16383 -16384)");
        Check.gives("(list (+ 16382 1) (- -16383 1))", "(16383 -16384)");
    }

    private static void primitiveWords() {
        Check.sentence("16 + 2 k PRIMITIVE k");
        Check.due("the first one, cons", word("cons"), 16);
        Check.due("the last one, read", word("read"), 16 + 2 * 26);
        Check.due("the one behind it, let's v", word("v"), 0);
    }

    /** Twelve words come ahead of the loop, five in each turn: just 8192. */
    private static void heapJustFull() {
        Check.sentence("the HEAP from 32768 on, below 49152");
        SchemeEleven x = Check.loaded("(define (g) (g)) (list 1) (g)");
        x.run(4 + 6 + 4 * 1636);
        Check.due("just full", x.look(3), HEAP_END);
        Check.due("not packed", x.look(4), 0);
        Check.due("the last object, a rib", x.word(HEAP_END - 4), 3 + 16 * 2);
        Check.due("its ENV", x.word(HEAP_END - 2), 6);
        Check.due("the word behind it", x.word(HEAP_END), 0);
        x.run(2);
        Check.due("not packed ahead of its time", x.look(4), 0);
        x.run(1);
        Check.due("packed for the next one", x.look(4), 1);
    }

    /** Fifteen words come ahead of the loop, so two are left for a pair. */
    private static void heapTooFull() {
        Check.sentence("OBJECTS ARE MADE behind the last one of the heap, in the order told, if all fit");
        SchemeEleven x = Check.loaded("(define (g) (g)) (list 1) (list) (g)");
        x.run(4 + 6 + 4 + 4 * 1635);
        Check.due("two words are left", x.look(3), HEAP_END - 4);
        Check.due("not packed", x.look(4), 0);
        x.run(3);
        Check.due("packed for the pair", x.look(4), 1);
        Check.due("closure, rib, pair", x.look(3), HEAP + 2 * (3 + 2 + 3));
    }

    private static void togetherJustFull() {
        Check.sentence("if all fit that are made together");
        SchemeEleven x = Check.loaded("(define (f . r) (f 1 2 3)) ((lambda () 1)) (list 1) (list) (list) (f)");
        // 32 words, then 24 in each turn of ten instructions; the last 12 are made by the call
        x.run(4 + 5 + 6 + 4 + 4 + 4 + 10 * 340 - 1);
        Check.due("ahead of the call", x.look(3), HEAP_END - 24);
        x.run(1);
        Check.due("just full", x.look(3), HEAP_END);
        Check.due("not packed", x.look(4), 0);
        Check.due("the last pair's end", x.word(HEAP_END - 2), 6);
    }

    private static void togetherTooFull() {
        Check.sentence("else the heap is PACKED first");
        SchemeEleven x = Check.loaded("(define (f . r) (f 1 2 3)) (f)");
        // nine words, 340 turns of 24, and four pairs: twelve are needed, eleven are left
        x.run(4 + 4 + 10 * 340 + 9);
        Check.due("ahead of the call", x.look(3), HEAP + 2 * 8181);
        Check.due("not packed", x.look(4), 0);
        x.run(1);
        Check.due("packed", x.look(4), 1);
        Check.due("closure, rib and list, four pairs, and what was made", x.look(3), HEAP + 2 * (3 + 12 + 12 + 12));
        int rib = x.register(1);
        Check.due("the rib is made first", rib, HEAP + 2 * (3 + 12 + 12));
        Check.due("its list behind it", x.word(rib + 4), rib + 6);
    }

    private static void packed() {
        Check.sentence("what isn't REACHED from R0 .. R3 and the words of STATICS by words of objects goes, "
            + "the others go down behind one another, in their order");
        SchemeEleven x = Check.loaded("(define (g) (g)) (list 1) (g)");
        x.run(4 + 6 + 4 * 1636 + 3);
        // the closure is reached from its symbol, R0 and ARGS, the rib from R1
        int[] words = {50, 0, 6, 35, 6, 49, HEAP, 6};
        for (int i = 0; i < words.length; i++) {
            if (i != 1) {
                Check.due("word " + i + " of the heap", x.word(HEAP + 2 * i), words[i]);
            }
        }
        Check.due("R0", x.register(0), HEAP);
        Check.due("R1", x.register(1), HEAP + 6);
        Check.due("R2", x.register(2), 0);
        Check.due("R3", x.register(3), HEAP + 10);
        Check.due("the value of g", x.word(1024 + 6 * 55 + 2), HEAP);
        Check.sentence("words behind the last one are 0");
        int sum = 0;
        for (int place = HEAP + 16; place < HEAP_END; place += 2) {
            sum |= x.word(place);
        }
        Check.due("words behind it", sum, 0);
        Check.due("the end", x.look(3), HEAP + 16);
    }

    /** The numbers' words are places in the heap, but for their last bit. */
    private static void oddWordsStay() {
        Check.sentence("(Words that are even and places where the heap has objects are meant.)");
        SchemeEleven x = Check.loaded("(define l (list -16384 -16383 -16381 -16000)) (define (g n) (if (= n 0) l (g (- n 1)))) (g 2000)");
        Check.finish(x);
        Check.due("packed", x.look(4) > 1, true);
        Check.due("the numbers", Check.shown(x), "(-16384 -16383 -16381 -16000)");
    }

    /** The word of -16384 is 32769, the first object's place and 1. */
    private static void oddWordsReachNothing() {
        Check.sentence("(Words that are even and places where the heap has objects are meant.)");
        SchemeEleven x = Check.loaded("(list) (define l '(-16384)) (define (g) (g)) (g)");
        Check.due("the first object is a push", x.run(3) == 2 && x.word(HEAP) == 49, true);
        for (int i = 0; i < 400 && x.look(4) == 0; i++) {
            x.run(20);
        }
        Check.due("packed", x.look(4), 1);
        Check.due("the first object is the closure", x.word(HEAP), 50);
        Check.due("the number stays", x.word(1024 + 6 * 57 + 2), 32769);
    }

    /** R4 is the place of a rib here, which nothing else reaches. */
    private static void otherRegistersStay() {
        Check.sentence("what isn't REACHED from R0 .. R3 and the words of STATICS by words of objects goes");
        SchemeEleven x = Check.loaded("(((lambda (a) (lambda () (set! a 1))) 5)) (define (g) (g)) (g)");
        for (int i = 0; i < 100 && x.look(7) < 1; i++) {
            x.run(1);
        }
        Check.due("R4", x.register(4), HEAP + 2 * (5 + 3 + 3 + 3));
        // 28 words, 1,632 turns of five and a push; the call needs two words more
        x.run(4 + 4 * 1632 + 3);
        Check.due("not packed", x.look(4), 0);
        Check.due("one word is left", x.look(3), HEAP_END - 2);
        x.run(1);
        Check.due("packed", x.look(4), 1);
        Check.due("closure, rib, push, rib", x.look(3), HEAP + 2 * (3 + 2 + 3 + 2));
        Check.due("R4 doesn't follow", x.register(4), HEAP + 2 * (5 + 3 + 3 + 3));
        // here the rib is reached by a closure, and goes down
        SchemeEleven y = Check.loaded("(define h ((lambda (a) (lambda () (set! a 1))) 5)) (h) (define (g) (g)) (g)");
        for (int i = 0; i < 400 && y.look(4) == 0; i++) {
            y.run(20);
        }
        Check.due("packed", y.look(4), 1);
        Check.due("the rib is the first object", y.word(HEAP), 3 + 16 * 3);
        Check.due("its closure follows", y.word(HEAP + 6 + 4), HEAP);
        Check.due("R4 doesn't follow", y.register(4), HEAP + 2 * (5 + 3 + 3 + 3));
    }

    /** Behind lists of many lengths, so that the heap is packed at each of the objects that a turn makes. */
    private static void follows(String text, String want) {
        for (int kept = 0; kept < 30; kept++) {
            String keep = "(define keep '()) (define (b n) (if (= n 0) 0 (begin (set! keep (cons n keep)) (b (- n 1))))) (b " + kept + ")";
            SchemeEleven x = Check.loaded(keep + text);
            Check.due("run of " + text, Check.finish(x), 1);
            Check.due("packed", x.look(4) > 1, true);
            Check.due(text + " behind " + kept, Check.shown(x), want);
        }
    }

    /** Each turn looks at what it made: the lists (n) (-2) (-3), one behind the other. */
    private static void objectsFollow() {
        Check.sentence("all these words that are places in the heap follow");
        String look = "(define (is l n) (if (null? l) 0 (if (= (car (car l)) n) (is (cdr l) (if (= n -2) -3 -2)) (error l))))";
        follows("(define (lp n) (if (= n 0) 'end (call/cc (lambda (k) (lp (- n 1)))))) (lp 1000)", "end");
        follows(look + "(define (lp n) (if (= n 0) 'end (begin (is (call/cc (lambda (k) (k (list (list n) (list -2))))) n) (lp (- n 1))))) (lp 500)", "end");
        follows(look + "(define (lp n) (if (= n 0) 'end (begin (is (list (list n) (list -2) (list -3)) n) (lp (- n 1))))) (lp 500)", "end");
        follows(look + "(define (lp n) (if (= n 0) 'end (begin (is (cons (list n) (cons (list -2) (list (list -3)))) n) (lp (- n 1))))) (lp 500)", "end");
        follows(look + "(define (f . r) r) (define (lp n) (if (= n 0) 'end (begin (is (f (list n) (list -2) (list -3)) n) (lp (- n 1))))) (lp 500)", "end");
        follows(look + "(define (f a . r) (cons a r)) (define (lp n) (if (= n 0) 'end (begin (is (apply f (list (list n) (list -2) (list -3))) n)"
            + "(lp (- n 1))))) (lp 500)", "end");
        follows(look + "(define (m a b c) (lambda () (list a b c))) (define (lp n) (if (= n 0) 'end (begin (is ((m (list n) (list -2) (list -3))) n)"
            + "(lp (- n 1))))) (lp 500)", "end");
    }

    private static SchemeEleven counted(int n) {
        return Check.loaded("(define l '()) (define (g n) (if (= n 0) 0 (begin (set! l (cons n l)) (g (- n 1))))) (g " + n + ")");
    }

    /** At (- n 1) there are the closure, n pairs, the rib, a push, a frame and three pushes: 23 + 3 n words. */
    private static void packedToTheLast() {
        Check.sentence("if all don't fit then: ERROR 6");
        SchemeEleven x = counted(2723);
        Check.due("just 8192 words", Check.finish(x), 1);
        SchemeEleven y = counted(2724);
        Check.due("8195 words", Check.finish(y), 3);
        Check.due("error 6", y.look(6), 6);
        Check.due("what is reached", y.look(3), HEAP + 2 * (20 + 3 * 2724));
        Check.due("words behind it", y.word(y.look(3)), 0);
    }

    /** So many words of the heap are left for a form, all others being reached; at least 20. */
    private static SchemeEleven left(int free) {
        String[] keeps = {"", "(define h ((lambda (a b) (lambda () a)) 1 2))", "(define h ((lambda (a b c) (lambda () a)) 1 2 3))"};
        int[] kept = {0, 7, 8};
        int i = 0;
        while ((WORDS - 3 - kept[i] - free) % 3 != 0) {
            i++;
        }
        int pairs = (WORDS - 3 - kept[i] - free) / 3;
        SchemeEleven x = Check.loaded(keeps[i]
            + "(define l '()) (define (g n) (if (= n 0) 0 (begin (set! l (cons n l)) (g (- n 1))))) (g " + pairs + ")");
        Check.due("room for " + free + " words is made", Check.finish(x), 1);
        int packs = x.look(4);
        for (int j = 0; j < 20 && x.look(4) == packs; j++) {
            Check.load(x, "(list)");
            x.run(20000);
        }
        // one pair that nothing reaches is left, so that the last objects of a form fit behind a packing alone
        Check.due("words in the heap", x.look(3), HEAP_END - 2 * free + 6);
        return x;
    }

    /** With just so many words the form ends with the error (0: none), with one less by 6, having made some. */
    private static void fits(String form, int need, int error, int made) {
        SchemeEleven x = left(need);
        int packs = x.look(4);
        Check.load(x, form);
        Check.due("with " + need + " words " + form, Check.finish(x), error == 0 ? 1 : 3);
        Check.due("its error", x.look(6), error);
        Check.due("packed once", x.look(4), packs + 1);
        Check.due("just full", x.look(3), HEAP_END);
        fails(form, need - 1, made);
    }

    private static SchemeEleven fails(String form, int free, int made) {
        SchemeEleven x = left(free);
        Check.load(x, form);
        Check.due("with " + free + " words " + form, Check.finish(x), 3);
        Check.due("its error", x.look(6), 6);
        Check.due("what is reached then", x.look(3), HEAP_END - 2 * (free - made));
        Check.due("the word behind it", x.word(x.look(3)), 0);
        return x;
    }

    private static void pushFull() {
        Check.sentence("EMT 0 PUSH: a PAIR (VAL, ARGS) is made and becomes ARGS");
        fits("(newline 1 2 3 4 5 6)", 21, 3, 18);
        SchemeEleven x = fails("(newline 1 2 3 4 5 6)", 20, 18);
        Check.due("VAL stays", x.register(0), 13);
        Check.due("ARGS stay: 5 is the last one", x.word(x.register(3) + 2), 11);
        Check.due("PC is behind the push", x.word(x.register(7) - 2), 0104000);
    }

    private static void frameFull() {
        Check.sentence("1 FRAME: X is the word at PC, which is 2 more then; a FRAME (X, ENV, CONT, ARGS) is made");
        SchemeEleven x = fails("(newline 1 2 3 4 5 (read))", 22, 18);
        Check.due("PC is behind X", x.word(x.register(7) - 4), 0104001);
        Check.due("CONT stays", x.register(2), 0);
        Check.due("ARGS stay", x.word(x.register(3) + 2), 11);
        SchemeEleven y = fails("(newline 1 2 3 4 5 (read))", 23, 23);
        Check.due("PC is behind the push", y.word(y.register(7) - 2), 0104000);
        Check.due("CONT is the frame", y.word(y.register(2)), 4 + 16 * 5);
        Check.due("ARGS are ()", y.register(3), 6);
    }

    private static void closeFull() {
        Check.sentence("2 CLOSE: X likewise; a CLOSURE (X, ENV) is made and becomes VAL");
        SchemeEleven x = fails("(newline 1 2 3 4 5 6 (lambda () 1))", 23, 21);
        Check.due("PC is behind X", x.word(x.register(7) - 4), 0104002);
        Check.due("VAL stays", x.register(0), 13);
        SchemeEleven y = fails("(newline 1 2 3 4 5 6 (lambda () 1))", 24, 24);
        Check.due("VAL is the closure", y.word(y.register(0)), 2 + 16 * 3);
    }

    private static void callFull() {
        Check.sentence("A RIB of its ENV and the n is made");
        fits("((lambda (a b c d e) 1) 1 2 3 4 5)", 28, 0, 21);
        SchemeEleven x = fails("((lambda (a b c d e) 1) 1 2 3 4 5)", 27, 21);
        Check.due("ENV stays", x.register(1), 6);
        Check.due("ARGS stay", x.word(x.register(3) + 2), 11);
        Check.due("PC is behind the call", x.word(x.register(7) - 2), 0104003);
        Check.sentence("whose PAIRS are made behind the RIB, the first one first (all together)");
        fits("((lambda (a . r) 1) 1 2 3 4)", 31, 0, 18);
        fails("((lambda (a . r) 1) 1 2 3 4)", 22, 18);
    }

    private static void consFull() {
        Check.sentence("then ERROR 6: 0 cons 2");
        SchemeEleven y = left(26);
        int packs = y.look(4);
        Check.load(y, "(newline 1 2 (cons 3 4))");
        Check.due("to the end of cons", y.run(16), 2);
        Check.due("packed once", y.look(4), packs + 1);
        Check.due("just full", y.look(3), HEAP_END);
        Check.due("the pair", Check.shown(y), "(3 . 4)");
        SchemeEleven x = fails("(newline 1 2 (cons 3 4))", 25, 23);
        Check.due("VAL stays", x.register(0), 9);
        Check.due("ARGS stay", x.word(x.register(3) + 2), 9);
    }

    private static void continuationFull() {
        Check.sentence("a PAIR (that CONTINUATION, that PAIR) are made together, the last one becomes ARGS, and PC is 2 less");
        fits("(newline 1 2 3 (call/cc 5))", 31, 2, 23);
        SchemeEleven x = fails("(newline 1 2 3 (call/cc 5))", 30, 23);
        Check.due("ARGS stay", x.word(x.register(3) + 2), 11);
        Check.due("PC is behind the call", x.word(x.register(7) - 2), 0104003);
        fails("(newline 1 2 3 (call/cc 5))", 25, 23);
    }

    private static void applyFull() {
        Check.sentence("a PAIR (F, ()), then for each of the list, the first one first, a PAIR (it, the PAIR before) are made together");
        fits("(apply newline '(1 2 3 4))", 24, 3, 9);
        SchemeEleven x = fails("(apply newline '(1 2 3 4))", 23, 9);
        Check.due("VAL stays, the list", Check.shown(x), "(1 2 3 4)");
        Check.due("PC is behind the call", x.word(x.register(7) - 2), 0104003);
    }

    private static void listFull() {
        Check.sentence("24 list any many: a list of new PAIRS, the last argument's made first (all together)");
        fits("(list 1 2 3)", 21, 0, 12);
        fits("(list 1 2 3 4)", 27, 0, 15);
        SchemeEleven x = fails("(list 1 2 3)", 20, 12);
        Check.due("VAL stays", x.register(0), 7);
    }

    private static void errorsAheadOfFull() {
        Check.sentence("with how many arguments (else ERROR 3), then what these must be, from the left (else ERROR 4), then ERROR 5");
        String[] forms = {
            "(newline 1 2 (cons 1))", "((lambda (a b c d e) 1) 1 2 3 4)", "(newline 1 2 (apply 5 6))", "(newline 1 2 (quotient 1 0))",
        };
        int[] frees = {20, 20, 23, 23};
        int[] errors = {3, 3, 4, 5};
        for (int i = 0; i < forms.length; i++) {
            SchemeEleven x = left(frees[i]);
            Check.load(x, forms[i]);
            Check.due("with a full heap " + forms[i], Check.finish(x), 3);
            Check.due("its error", x.look(6), errors[i]);
        }
    }

    private static void formDone() {
        Check.sentence("4 RETURN: if CONT is 0, the FORM is DONE");
        SchemeEleven x = Check.loaded("1 (newline) (call/cc (lambda (k) (k 2)))");
        x.run(2);
        Check.due("by RETURN", x.look(7), 1);
        x.run(4);
        Check.due("by a primitive", x.look(7), 2);
        Check.finish(x);
        Check.due("by a continuation", x.look(7), 3);
        Check.due("what it gives", Check.shown(x), "2");
    }

    private static void argumentsGo() {
        Check.sentence("F a PRIMITIVE: VAL becomes what it gives, ARGS (), then as RETURN (not 19, 20)");
        for (String form : new String[] {"(cons 1 2)", "(car '(1))", "(eq? 1 2)", "(pair? 1)", "(+ 1 2)", "(< 1 2)", "(newline)", "(list 1 2)", "(read)", "(not 1)"}) {
            SchemeEleven x = Check.loaded(form);
            Check.due("run of " + form, Check.finish(x), 1);
            Check.due("ARGS of " + form, x.register(3), 6);
            Check.due("CONT of " + form, x.register(2), 0);
        }
    }

    private static String lambda(String names, int count) {
        return "((lambda " + names + " 'in)" + Check.times(" 1", count) + ")";
    }

    private static void closureCounts() {
        Check.sentence("the word at its code's place is 2 n + m: it takes n arguments, or, with m 1, n and more: else ERROR 3");
        int[][] rows = {{0, 0}, {1, 0}, {2, 0}, {0, 1}, {1, 1}, {2, 1}};
        String[] names = {"()", "(a)", "(a b)", "a", "(a . b)", "(a b . c)"};
        for (int i = 0; i < rows.length; i++) {
            for (int count = 0; count <= 4; count++) {
                boolean takes = rows[i][1] == 0 ? count == rows[i][0] : count >= rows[i][0];
                if (takes) {
                    Check.gives(lambda(names[i], count), "in");
                } else {
                    Check.errs(lambda(names[i], count), 3);
                }
            }
        }
        String twenty = "(a b c d e f g h i j k l m n o p q r s t)";
        Check.errs(lambda(twenty, 19), 3);
        Check.gives(lambda(twenty, 20), "in");
        Check.errs(lambda(twenty, 21), 3);
        Check.gives("((lambda a a))", "()");
        Check.gives("((lambda (a . b) b) 1)", "()");
        Check.gives("((lambda (a . b) b) 1 2)", "(2)");
    }

    private static void continuationCounts() {
        Check.sentence("F a CONTINUATION: it takes one (else ERROR 3)");
        Check.errs("(call/cc (lambda (k) (k)))", 3);
        Check.gives("(call/cc (lambda (k) (k 1)))", "1");
        Check.gives("(list 1 (call/cc (lambda (k) (apply k '(5)))))", "(1 5)");
        Check.errs("(call/cc (lambda (k) (apply k '())))", 3);
        Check.errs("(call/cc (lambda (k) (k 1 2)))", 3);
    }

    private static void noProcedures() {
        Check.sentence("F another one: ERROR 2");
        // words of numbers from 8 to 34 lie among those of primitives, but are odd
        for (String n : new String[] {"7", "8", "9", "20", "33", "34", "35"}) {
            Check.errs("(" + n + " 1)", 2);
            Check.gives("(procedure? " + n + ")", "#f");
            Check.gives("(list " + n + ")", "(" + n + ")");
        }
        for (String f : new String[] {"1", "#t", "#f", "'()", "(if #f 1)", "'(1)", "'car"}) {
            Check.errs("(" + f + ")", 2);
            Check.errs("(" + f + " 1 2)", 2);
        }
    }

    private static final String[] NAMES = {
        "cons", "car", "cdr", "set-car!", "set-cdr!", "eq?", "pair?", "null?", "number?", "symbol?", "procedure?", "boolean?",
        "+", "-", "*", "quotient", "remainder", "<", "=", "call/cc", "apply", "display", "newline", "not", "list", "error", "read",
    };
    private static final int[] FEWEST = {2, 1, 1, 2, 2, 2, 1, 1, 1, 1, 1, 1, 0, 1, 0, 2, 2, 2, 2, 1, 2, 1, 0, 1, 0, 1, 0};
    private static final int MANY = 99;
    private static final int[] MOST = {2, 1, 1, 2, 2, 2, 1, 1, 1, 1, 1, 1, MANY, MANY, MANY, 2, 2, 2, 2, 1, 2, 1, 0, 1, MANY, 1, 0};

    /** Of what is called by a wrong count nothing is of the right kind, either. */
    private static void primitiveCounts() {
        Check.sentence("PRIMITIVES, with how many arguments (else ERROR 3)");
        for (int k = 0; k < NAMES.length; k++) {
            if (FEWEST[k] > 0) {
                Check.errs("(" + NAMES[k] + Check.times(" 'a", FEWEST[k] - 1) + ")", 3);
            }
            if (MOST[k] < MANY) {
                Check.errs("(" + NAMES[k] + Check.times(" 'a", MOST[k] + 1) + ")", 3);
            }
            for (int n = FEWEST[k]; n <= Math.min(MOST[k], 40); n += MOST[k] == MANY ? 20 : 1) {
                SchemeEleven x = Check.loaded("(" + NAMES[k] + Check.times(" 1", n) + ")");
                Check.finish(x);
                Check.due(NAMES[k] + " takes " + n, x.look(6) == 3, false);
            }
        }
        Check.gives("(+" + Check.times(" 1", 40) + ")", "40");
        String build = "(define (b n) (if (= n 0) '() (cons 1 (b (- n 1))))) ";
        Check.gives(build + "(list (apply + (b 199)) (apply * (b 199)) (apply - (b 199)))", "(199 1 -197)");
    }

    private static void errorOrder() {
        Check.sentence("with how many arguments (else ERROR 3), then what these must be, from the left (else ERROR 4), then ERROR 5");
        Check.errs("(car 1 2)", 3);
        Check.errs("(quotient 'a)", 3);
        Check.errs("(quotient 'a 0)", 4);
        Check.errs("(quotient 0 'a)", 4);
        Check.errs("(remainder 1 'a)", 4);
        Check.errs("(+ 16383 16383 'a)", 4);
        Check.errs("(* 16383 16383 #f)", 4);
        Check.errs("(- -16384 16383 '())", 4);
        Check.errs("(apply 5 6)", 4);
    }

    private static void sums() {
        Check.sentence("ERROR 5: a NUMBER beyond its bounds (at any step, from the left)");
        Check.gives("(+ 16382 1)", "16383");
        Check.errs("(+ 16383 1)", 5);
        Check.gives("(+ -16383 -1)", "-16384");
        Check.errs("(+ -16384 -1)", 5);
        Check.errs("(+ 16383 16383)", 5);
        Check.gives("(- -16383 1)", "-16384");
        Check.errs("(- -16384 1)", 5);
        Check.gives("(- 16382 -1)", "16383");
        Check.errs("(- 16383 -1)", 5);
        Check.gives("(- 16383)", "-16383");
        Check.gives("(- -16383)", "16383");
        Check.errs("(- -16384)", 5);
        Check.gives("(- 0)", "0");
        Check.gives("(list (+) (*) (+ 7) (* 7))", "(0 1 7 7)");
    }

    private static void products() {
        Check.sentence("12 +, 14 * any many, 13 - 1 (0 less it) or more: NUMBERS");
        Check.gives("(* 129 127)", "16383");
        Check.errs("(* 128 128)", 5);
        Check.gives("(* -128 128)", "-16384");
        Check.errs("(* 5 -3277)", 5);
        Check.errs("(* -16384 -1)", 5);
        Check.errs("(* -16384 -16384)", 5);
        Check.gives("(* -16384 1)", "-16384");
        Check.gives("(* -16384 0)", "0");
    }

    private static void quotients() {
        Check.sentence("15 quotient (towards 0), 16 remainder (with the first one's sign) 2: NUMBERS");
        Check.gives("(list (quotient -16384 1) (quotient 16383 -1) (quotient -1 2) (quotient 0 -5))", "(-16384 -16383 0 0)");
        Check.errs("(quotient -16384 -1)", 5);
        Check.gives("(list (remainder -16384 -1) (remainder -7 7) (remainder -1 16383) (remainder 16383 -16384))", "(0 0 -1 16383)");
        Check.sentence("a quotient by 0");
        Check.errs("(quotient 0 0)", 5);
        Check.errs("(quotient 5 0)", 5);
        Check.errs("(remainder 5 0)", 5);
        Check.errs("(remainder 0 0)", 5);
    }

    private static void steps() {
        Check.sentence("at any step, from the left");
        Check.errs("(+ 16383 1 -1)", 5);
        Check.gives("(+ 16383 -1 1)", "16383");
        Check.errs("(- -16384 1 -1)", 5);
        Check.gives("(- -16384 -1 1)", "-16384");
        Check.errs("(* 128 128 0)", 5);
        Check.gives("(* 0 128 128)", "0");
    }

    private static void comparisons() {
        Check.sentence("17 <, 18 = 2: NUMBERS");
        Check.gives("(list (< -16384 16383) (< 16383 -16384) (< -1 0) (< 0 -1) (< 5 5) (< 4 5))", "(#t #f #t #f #f #t)");
        Check.gives("(list (= -16384 -16384) (= 16383 -16384) (= 0 0) (= 0 1) (= -1 1))", "(#t #f #t #f #f)");
        for (String no : new String[] {"'a", "#t", "'()", "'(1)", "car"}) {
            for (String f : new String[] {"<", "=", "quotient", "+", "-", "*"}) {
                Check.errs("(" + f + " 1 " + no + ")", 4);
                Check.errs("(" + f + " " + no + " 1)", 4);
            }
        }
        Check.sentence("5 eq? 2: whether one word");
        Check.gives("(list (eq? 16383 16383) (eq? -1 1) (eq? '() '()) (eq? (list) '()) (eq? 'a 'a) (eq? '(1) '(1)) (eq? car car) (eq? #f '()))",
            "(#t #f #t #t #t #f #t #f)");
    }

    private static void kinds() {
        Check.sentence("6 pair?, 7 null?, 8 number?, 9 symbol?, 10 procedure? (PRIMITIVE, CLOSURE, CONTINUATION), 11 boolean? 1");
        String[] values = {
            "'(1)", "(list 1)", "'()", "0", "-16384", "16383", "'a", "cons", "read", "(lambda () 1)", "(call/cc (lambda (k) k))", "#t", "#f", "(if #f 1)",
        };
        String[] asked = {"pair?", "null?", "number?", "symbol?", "procedure?", "boolean?"};
        String kinds = "PP-NNNSFFFFBB.";
        String of = "P-NSFB";
        for (int i = 0; i < values.length; i++) {
            for (int j = 0; j < asked.length; j++) {
                Check.gives("(" + asked[j] + " " + values[i] + ")", kinds.charAt(i) == of.charAt(j) ? "#t" : "#f");
            }
        }
        Check.sentence("23 not 1: whether #f");
        Check.gives("(list (not #f) (not #t) (not '()) (not 0) (not (if #f 1)))", "(#t #f #f #f #f)");
    }

    private static void pairsOnly() {
        Check.sentence("1 car, 2 cdr 1: a PAIR. 3 set-car!, 4 set-cdr! 2: a PAIR, any: nothing (8)");
        for (String no : new String[] {"1", "#t", "'()", "'a", "car", "(lambda () 1)", "(if #f 1)", "(call/cc (lambda (k) k))"}) {
            Check.errs("(car " + no + ")", 4);
            Check.errs("(cdr " + no + ")", 4);
            Check.errs("(set-car! " + no + " 1)", 4);
            Check.errs("(set-cdr! " + no + " 1)", 4);
            Check.gives("(pair? " + no + ")", "#f");
        }
        Check.gives("(set-cdr! '(1) '())", "#u");
    }

    private static void applyBounds() {
        Check.sentence("20 apply 2: any, a list (PAIRS up to (), fewer than 200)");
        String build = "(define (b n l) (if (= n 0) l (b (- n 1) (cons 1 l)))) ";
        Check.gives(build + "(apply + (b 199 '()))", "199");
        Check.errs(build + "(apply + (b 200 '()))", 4);
        Check.errs(build + "(apply + (b 199 1))", 4);
        Check.errs(build + "(apply 5 (b 199 '()))", 2);
        Check.errs(build + "(apply 5 (b 200 '()))", 4);
        Check.gives(build + "(define (f . r) r) (define (n l) (if (null? l) 0 (+ 1 (n (cdr l))))) (n (apply f (b 199 '())))", "199");
        Check.gives("(apply + '())", "0");
        Check.errs("(apply + 1)", 4);
        Check.errs("(apply + '(1 . 2))", 4);
        Check.errs("(define l (list 1)) (set-cdr! l l) (apply + l)", 4);
    }

    private static void emptyList() {
        Check.sentence("24 list any many");
        SchemeEleven x = Check.loaded("(list)");
        Check.finish(x);
        Check.due("()", x.register(0), 6);
        Check.due("a push alone is made", x.look(3), HEAP + 6);
    }

    private static void emptyInput() {
        Check.sentence("26 read 0: the first NUMBER of the INPUT, which goes; #f without one");
        SchemeEleven x = Check.loaded("(read) (read) (read)");
        x.input(-7);
        x.input(8);
        x.run(4);
        Check.due("the first", Check.shown(x), "-7");
        x.run(4);
        Check.due("the second", Check.shown(x), "8");
        x.run(4);
        Check.due("none", Check.shown(x), "#f");
    }

    private static void failedCalls() {
        Check.sentence("(Where it fails VAL, but of 25, and ARGS stay.)");
        String[] forms = {"(car 7)", "(car 6 7)", "(6 7)", "((lambda () 1) 7)", "(quotient 0 0 7)", "(apply 6 7)", "(+ 16383 7)"};
        for (String form : forms) {
            SchemeEleven x = Check.loaded(form);
            Check.finish(x);
            Check.due("VAL of " + form, x.register(0), 15);
            Check.due("ARGS of " + form, x.word(x.register(3) + 2), 15);
            Check.due("PC of " + form, x.word(x.register(7) - 2), 0104003);
        }
        Check.sentence("5 ERROR 1 UNBOUND");
        SchemeEleven x = Check.loaded("(set! unknown 7)");
        Check.finish(x);
        Check.due("VAL", x.register(0), 15);
        Check.due("the symbol is without a value", x.word(1024 + 6 * 55 + 2), 0);
    }

    private static void raised() {
        Check.sentence("25 error 1: ERROR 7, VAL that");
        SchemeEleven x = Check.loaded("(error 'bad)");
        Check.due("run", Check.finish(x), 3);
        Check.due("error", x.look(6), 7);
        Check.due("VAL", Check.shown(x), "bad");
        Check.due("ARGS stay", x.word(x.register(3) + 2), x.register(0));
        SchemeEleven y = Check.loaded("(apply error '(5))");
        Check.finish(y);
        Check.due("VAL by apply", Check.shown(y), "5");
        Check.errs("(error)", 3);
        Check.errs("(error 1 2)", 3);
    }

    private static void writtenWords() {
        Check.sentence("a NUMBER by its digits, a - ahead; #t #f (); a SYMBOL by its name; #u nothing; #p a procedure; another word nothing");
        Check.writes("(display 10000) (display -10000) (display 9999) (display 1000) (display 100) (display 99)", "10000-100009999100010099");
        Check.writes("(display 16383) (display -16384) (display 0) (display -1) (display 10)", "16383-163840-110");
        Check.writes("(display 'abcdefghijklm) (display '-) (display #t) (display #f) (display '()) (display (if #f 1))", "abcdefghijklm-#t#f()#u");
        Check.writes("(display cons) (display read) (display (lambda () 1)) (display (call/cc (lambda (k) k)))", "#p#p#p#p");
        SchemeEleven x = Check.loaded("unknown");
        Check.finish(x);
        Check.due("another word", x.shown(0), NONE);
        SchemeEleven y = Check.loaded("((lambda (a) ((lambda () ((lambda () a))))) 1)");
        for (int i = 0; i < 40 && (y.register(0) < HEAP || (y.word(y.register(0)) & 15) != 3); i++) {
            y.run(1);
        }
        Check.due("R0 is a rib on the way out", y.word(y.register(0)) & 15, 3);
        Check.due("another word", y.shown(0), NONE);
        Check.sentence("at last a blank, a point, a blank and what isn't () behind the last PAIR, and )");
        Check.writes("(display '(1 2 . 3)) (display '(1 . #f)) (display '(1 . ())) (display '((1) . (2)))", "(1 2 . 3)(1 . #f)(1)((1) 2)");
    }

    private static String nested(int depth, String within) {
        return Check.times("(", depth) + within + Check.times(")", depth);
    }

    private static void writtenDeep() {
        Check.sentence("A PAIR within ten others that are being written is %");
        Check.gives("'" + nested(10, "a"), nested(10, "a"));
        Check.gives("'" + nested(11, "a"), nested(10, "%"));
        Check.gives("'" + nested(12, "a"), nested(10, "%"));
        Check.gives("'" + nested(10, "a () (b) . c"), nested(10, "a () % . c"));
        Check.gives("'" + nested(9, "a (b) ((c))"), nested(9, "a (b) (%)"));
        Check.writes("(display '" + nested(11, "a") + ")", nested(10, "%"));
    }

    private static void writtenMany() {
        Check.sentence("When 60 of all these but PAIRS (such a % counts) have been written, the next one, or PAIR, is % in its place, "
            + "and that ends all that is WRITTEN");
        String some = Check.times("1 ", 59);
        Check.gives("'(" + some + "2)", "(" + some + "2)");
        Check.gives("'(" + some + "2 3)", "(" + some + "2 %");
        Check.gives("'(" + some + "2 (3))", "(" + some + "2 %");
        Check.gives("'(" + some + "2 ())", "(" + some + "2 %");
        Check.gives("'(" + some + "2 . 3)", "(" + some + "2 . %");
        Check.gives("'(" + some + ". 2)", "(" + some + ". 2)");
        Check.gives("'((" + some + "2))", "((" + some + "2))");
        Check.gives("'((" + some + "2) 3 4)", "((" + some + "2) %");
        Check.gives("'((" + some + "2) . 3)", "((" + some + "2) . %");
        Check.gives("'(((" + some + "2 3) 4) 5)", "(((" + some + "2 %");
        String deep = Check.times("(1) ", 59);
        Check.gives("'" + nested(10, deep + "2"), nested(10, Check.times("% ", 59) + "2"));
        Check.gives("'" + nested(10, deep + "2 3"), Check.times("(", 10) + Check.times("% ", 59) + "2 %");
        Check.gives("'" + nested(10, deep + "(2) (3)"), Check.times("(", 10) + Check.times("% ", 60) + "%");
        Check.writes("(display '(" + some + "2 3)) (display 4)", "(" + some + "2 %4");
        Check.gives("(define y (list 1)) (set-cdr! y y) y", "(" + Check.times("1 ", 60) + "%");
    }

    private static void formBegins() {
        Check.sentence("A FORM begins, with its first instruction, with R0 8, R1 and R3 6, R2 0, PC its first word "
            + "(other registers, FLAGS as they are)");
        SchemeEleven x = Check.loaded("(((lambda (a) (lambda () (set! a -1))) 5)) ((lambda () 1))");
        for (int i = 0; i < 40 && x.look(7) == 0; i++) {
            x.run(1);
        }
        int four = x.register(4);
        Check.due("R4 is a rib", x.word(four) & 15, 3);
        Check.due("R1 is one, too", x.word(x.register(1)) & 15, 3);
        x.run(1);
        Check.due("R1", x.register(1), 6);
        Check.due("R2", x.register(2), 0);
        Check.due("R3", x.register(3), 6);
        Check.due("R4 stays", x.register(4), four);
        Check.due("flags stay: 8 was the last word that was moved", x.register(8), 0);
        SchemeEleven y = Check.loaded("-1 (lambda () 1)");
        y.run(3);
        Check.due("N stays", y.register(8), 8);
        SchemeEleven z = Check.loaded("7 8");
        z.run(2);
        Check.due("R0 ahead of the next form's first instruction", z.register(0), 15);
        SchemeEleven first = Check.loaded("(begin (car 5) 1)");
        first.run(1);
        Check.due("R0 is 8 at first: the frame doesn't change it", first.register(0), 8);
    }

    private static void errorEnds() {
        Check.sentence("An ERROR (1 to 7) ends it, and all FORMS that wait are gone");
        String[] forms = {"unknown", "(5)", "(car)", "(car 5)", "(quotient 1 0)", "", "(error 1)"};
        for (int error = 1; error <= 7; error++) {
            if (error != 6) {
                SchemeEleven x = Check.loaded("1 " + forms[error - 1] + " (display 'more) 2");
                Check.due("run", x.run(20000), 3);
                Check.due("the error", x.look(6), error);
                Check.due("forms that wait", x.look(0), 0);
                Check.due("forms that were done", x.look(7), 1);
                Check.due("run", x.run(20000), 0);
                Check.due("nothing was written", x.look(8), 0);
            }
        }
    }
}
