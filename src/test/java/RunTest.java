/** Parts 2 and 6 of the document: objects, calls, primitives, what is written, runs (promises 6 to 12). */
public final class RunTest {
    public static void main(String[] args) {
        pairs();
        kinds();
        numbers();
        applying();
        continuations();
        variables();
        tailCalls();
        errors();
        failedCalls();
        written();
        objects();
        callObjects();
        packing();
        full();
        fullByMany();
        numbersStay();
        constantsReach();
        formsBegin();
        Check.finish();
    }

    private static String times(String part, int n) {
        StringBuilder all = new StringBuilder();
        for (int i = 0; i < n; i++) {
            all.append(part);
        }
        return all.toString();
    }

    private static void pairs() {
        Check.gives("(cons 1 2)", "(1 . 2)");
        Check.gives("(car '(1 . 2))", "1");
        Check.gives("(cdr '(1 . 2))", "2");
        Check.gives("(define p (list 1 2)) (set-car! p 3) (set-cdr! p 4) p", "(3 . 4)");
        Check.gives("(set-car! (list 1) 2)", "#u");
        Check.gives("(list)", "()");
        Check.gives("(list 1 (list 2) 3)", "(1 (2) 3)");
        Check.gives("(list (eq? 'a 'a) (eq? 5 5) (eq? '(a) '(a)) (eq? '() '()))", "(#t #t #f #t)");
        Check.gives("(list (not #f) (not '()) (not 0))", "(#t #f #f)");
    }

    private static void kinds() {
        String values = "'(1) '() 5 'a car (lambda () 1) (call/cc (lambda (k) k)) #t #f (set! x 1)";
        String[] asked = {"pair?", "null?", "number?", "symbol?", "procedure?", "boolean?"};
        String[] wants = {
            "(#t #f #f #f #f #f #f #f #f #f)", "(#f #t #f #f #f #f #f #f #f #f)", "(#f #f #t #f #f #f #f #f #f #f)",
            "(#f #f #f #t #f #f #f #f #f #f)", "(#f #f #f #f #t #t #t #f #f #f)", "(#f #f #f #f #f #f #f #t #t #f)",
        };
        for (int i = 0; i < asked.length; i++) {
            Check.gives("(define x 0) (define (each f l) (if (null? l) l (cons (f (car l)) (each f (cdr l))))) (each "
                + asked[i] + " (list " + values + "))", wants[i]);
        }
    }

    private static void numbers() {
        Check.gives("(list (+) (+ 1) (+ 1 2 3) (*) (* 2 3 4) (- 5) (- 5 1 2))", "(0 1 6 1 24 -5 2)");
        Check.gives("(list (quotient 7 2) (quotient -7 2) (quotient 7 -2) (quotient -7 -2))", "(3 -3 -3 3)");
        Check.gives("(list (remainder 7 2) (remainder -7 2) (remainder 7 -2) (remainder -7 -2))", "(1 -1 1 -1)");
        Check.gives("(list (< 1 2) (< 2 2) (< -1 1) (= 2 2) (= 2 -2))", "(#t #f #t #t #f)");
        Check.gives("(list (+ 16383 0) (- -16383 1) (* -2 8192) (- 16383))", "(16383 -16384 -16384 -16383)");
        Check.errs("(+ 16383 1)", 5);
        Check.errs("(+ 16383 1 -1)", 5);
        Check.errs("(- -16384)", 5);
        Check.errs("(- -16384 1)", 5);
        Check.errs("(* 128 128)", 5);
        Check.errs("(* 16383 2 0)", 5);
        Check.errs("(quotient -16384 -1)", 5);
        Check.errs("(quotient 1 0)", 5);
        Check.errs("(remainder 1 0)", 5);
        Check.errs("(+ 16383 1 'a)", 4);
        Check.errs("(quotient 'a 0)", 4);
        Check.errs("(< 1 'a)", 4);
        Check.errs("(= 'a 'a)", 4);
    }

    private static void applying() {
        Check.gives("(apply + '(1 2 3))", "6");
        Check.gives("(apply list '())", "()");
        Check.gives("(define (f a . r) (list a r)) (apply f '(1 2 3))", "(1 (2 3))");
        Check.gives("(apply apply (list + '(1 2)))", "3");
        Check.gives("(apply call/cc (list (lambda (k) (k 5))))", "5");
        Check.errs("(apply + 5)", 4);
        Check.errs("(apply + '(1 . 2))", 4);
        Check.errs("(define l (list 1)) (set-cdr! l l) (apply + l)", 4);
        Check.errs("(apply 5 '(1))", 2);
        String build = "(define (b n) (if (= n 0) '() (cons 1 (b (- n 1))))) ";
        Check.gives(build + "(apply + (b 199))", "199");
        Check.errs(build + "(apply + (b 200))", 4);
    }

    private static void continuations() {
        Check.gives("(+ 1 (call/cc (lambda (k) (+ 10 (k 5)))))", "6");
        Check.gives("(call/cc (lambda (k) 7))", "7");
        Check.writes("(define k 0) (define n 0) (display (+ 1 (call/cc (lambda (c) (set! k c) 1)))) "
            + "(set! n (+ n 1)) (if (< n 3) (k n)) (display n)", "221");
        Check.errs("(call/cc (lambda (k) (k)))", 3);
        Check.errs("(call/cc (lambda (k) (k 1 2)))", 3);
        Check.errs("(call/cc 5)", 2);
        Check.errs("(call/cc)", 3);
        Check.gives("((call/cc call/cc) (lambda (x) 5))", "5");
        SchemeEleven x = Check.loaded("(define k 0) (list 1 (call/cc (lambda (c) (set! k c) 2)) 3) (define r 0) (k 9)");
        Check.due("a continuation of an older form", Check.finish(x), 1);
        Check.due("what it gives", Check.shown(x), "(1 9 3)");
        Check.due("the form under way is done by it", x.look(7), 4);
        SchemeEleven y = Check.loaded("(define k 0) (begin (call/cc (lambda (c) (set! k c))) 5) ((call/cc (lambda (c) c)) 7)");
        Check.due("a number isn't called", Check.finish(y), 3);
        Check.due("error", y.look(6), 2);
        // the end of a form keeps ARGS as they are when a continuation of CONT 0 is called
        SchemeEleven z = Check.loaded("(call/cc (lambda (k) (k 4)))");
        Check.finish(z);
        Check.due("ARGS: a pair of 4", z.word(z.register(3) + 2), 9);
    }

    private static void variables() {
        Check.gives("(define (mk n) (lambda () (set! n (+ n 1)) n)) (define a (mk 5)) (a) (define b (mk 1)) (list (a) (b))", "(7 2)");
        Check.gives("((lambda (a b . c) (list a b c)) 1 2 3 4)", "(1 2 (3 4))");
        Check.gives("((lambda a a))", "()");
        Check.gives("((lambda a a) 1 2)", "(1 2)");
        Check.gives("(((lambda (a) (lambda (b) (set! a (+ a b)) (list a b))) 1) 2)", "(3 2)");
        Check.gives("(define x 1) (define (f) x) (set! x 2) (f)", "2");
        Check.gives("(define x 1)", "x");
        Check.gives("(define-syntax m (syntax-rules ()))", "m");
        Check.gives("(define x 1) (set! x 5)", "#u");
        Check.gives("(if #f 1)", "#u");
        Check.gives("(if '() 1 2)", "1");
        Check.gives("(if 0 1 2)", "1");
    }

    /** A call in tail place keeps nothing: no packing ends with an error, however often it goes on. */
    private static void tailCalls() {
        SchemeEleven x = Check.loaded("(define (loop n) (if (= n 0) 'end (begin 1 (cond (#f 2) (else (loop (- n 1))))))) (loop 15000)");
        Check.due("a long loop", Check.finish(x), 1);
        Check.due("its end", Check.shown(x), "end");
        Check.due("it was packed", x.look(4) > 20, true);
        Check.errs("(define (deep n) (+ 1 (deep n))) (deep 1)", 6);
    }

    private static void errors() {
        Check.errs("nothing-known", 1);
        Check.errs("(set! nothing-known 1)", 1);
        Check.errs("(5)", 2);
        Check.errs("('a 1)", 2);
        Check.errs("('(1))", 2);
        Check.errs("((if #f 1))", 2);
        Check.errs("((lambda (a) a))", 3);
        Check.errs("((lambda (a) a) 1 2)", 3);
        Check.errs("((lambda (a . b) a))", 3);
        String[] counts = {
            "(cons 1)", "(cons 1 2 3)", "(car)", "(cdr '(1) 2)", "(set-car! '(1))", "(set-cdr! 1 2 3)", "(eq? 1)",
            "(pair?)", "(null? 1 2)", "(number?)", "(symbol?)", "(procedure?)", "(boolean?)", "(-)", "(quotient 1)",
            "(remainder 1 2 3)", "(< 1)", "(= 1 2 3)", "(apply +)", "(display)", "(newline 1)", "(not)", "(error)",
            "(read 1)", "(car 1 2)", "(set-car! '(1) 2 3)", "(set-cdr! '(1))", "(eq? 1 2 3)", "(pair? 1 2)", "(null?)",
            "(number? 1 2)", "(symbol? 1 2)", "(procedure? 1 2)", "(boolean? 1 2)", "(quotient 1 2 3)", "(remainder 1)",
            "(< 1 2 3)", "(= 1)", "(call/cc car 2)", "(apply + 1 '(2))", "(display 1 2)", "(not 1 2)", "(error 1 2)",
        };
        for (String text : counts) {
            Check.errs(text, 3);
        }
        String[] types = {"(car 1)", "(cdr '())", "(set-car! 1 2)", "(set-cdr! 'a 2)", "(+ 'a)", "(- #t)", "(* 1 '())"};
        for (String text : types) {
            Check.errs(text, 4);
        }
        SchemeEleven x = Check.loaded("(error '(bad 5)) 1 2");
        Check.due("error", Check.finish(x), 3);
        Check.due("its number", x.look(6), 7);
        Check.due("its value", Check.shown(x), "(bad 5)");
        Check.due("forms that wait", x.look(0), 0);
        Check.due("forms that were done", x.look(7), 0);
    }

    /** Where a call fails VAL and ARGS stay. */
    private static void failedCalls() {
        SchemeEleven x = Check.loaded("(car 5)");
        Check.finish(x);
        Check.due("VAL", x.register(0), 11);
        int args = x.register(3);
        Check.due("the last argument", x.word(args + 2), 11);
        Check.due("F behind it", x.word(x.word(args + 4) + 2), 16 + 2);
        Check.due("the end", x.word(x.word(args + 4) + 4), 6);
        Check.due("PC behind the call", x.word(x.register(7) - 2), 0104003);
        SchemeEleven y = Check.loaded("unknown");
        Check.finish(y);
        Check.due("VAL of what has no value", y.register(0), 0);
        Check.due("it is written as nothing", y.shown(0), -1);
    }

    private static void written() {
        Check.writes("(display 'abc) (display -16384) (newline) (display '())", "abc-16384\n()");
        Check.writes("(display (list #t #f car (lambda () 1) (call/cc (lambda (k) k)) (newline)))", "\n(#t #f #p #p #p #u)");
        Check.writes("(display '(1 . (2 . (3 . 4))))", "(1 2 3 . 4)");
        Check.writes("(display '" + times("(", 10) + "a" + times(")", 10) + ")", times("(", 10) + "a" + times(")", 10));
        Check.writes("(display '" + times("(", 11) + "a" + times(")", 11) + ")", times("(", 10) + "%" + times(")", 10));
        Check.gives("'" + times("(", 10) + "a" + times(")", 10), times("(", 10) + "a" + times(")", 10));
        Check.gives("'" + times("(", 11) + "a" + times(")", 11), times("(", 10) + "%" + times(")", 10));
        Check.gives("'" + times("(b ", 11) + "a" + times(")", 11), times("(b ", 10) + "%" + times(")", 10));
        String sixty = times("1 ", 60).trim();
        Check.gives("'(" + sixty + ")", "(" + sixty + ")");
        Check.gives("'(" + sixty + " 2)", "(" + sixty + " %");
        Check.gives("'(" + sixty + " (2))", "(" + sixty + " %");
        Check.gives("'(" + sixty + " . 2)", "(" + sixty + " . %");
        Check.gives("'((" + sixty + ") 2)", "((" + sixty + ") %");
        Check.gives("'(" + times("() ", 59) + "a)", "(" + times("() ", 59) + "a)");
        // a % in a deep place counts as one of the sixty
        Check.gives("'" + times("(", 10) + times("(a) ", 61) + times(")", 10), times("(", 10) + times("% ", 60) + "%");
        Check.gives("(define y (list 1 2)) (set-cdr! (cdr y) y) y", "(" + times("1 2 ", 30) + "%");
        Check.gives("(define y (list 1)) (set-car! y y) y", times("(", 10) + "%" + times(")", 10));
        SchemeEleven x = Check.loaded("(define (w n) (display '(abc def ghi)) (if (= n 0) 0 (w (- n 1)))) (w 199)");
        Check.finish(x);
        Check.due("bytes written, also lost ones", x.look(8), 200 * 13);
        Check.due("the first 2,000 are kept", Check.out(x).length(), 2000);
    }

    private static void words(SchemeEleven x, String what, int place, int... words) {
        for (int i = 0; i < words.length; i++) {
            Check.due(what + ", word " + i, x.word(place + 2 * i), words[i]);
        }
    }

    private static void objects() {
        SchemeEleven x = Check.loaded("((lambda (p . q) (lambda () p)) 1 2 3)");
        int code = 8192 + 36;
        Check.finish(x);
        int h = 32768;
        // the closure, four pushes, the rib with its list behind it, the closure that it gives
        words(x, "closure", h, 2 + 48, code + 2 * 13, 6);
        words(x, "push of F", h + 6, 49, h, 6);
        words(x, "push of 1", h + 12, 49, 3, h + 6);
        words(x, "push of 2", h + 18, 49, 5, h + 12);
        words(x, "push of 3", h + 24, 49, 7, h + 18);
        words(x, "rib", h + 30, 3 + 16 * 4, 6, 3, h + 38);
        words(x, "list of the others", h + 38, 49, 5, h + 44, 49, 7, 6);
        words(x, "closure", h + 50, 50, x.word(h + 52), h + 30);
        Check.due("end of the heap", x.look(3), h + 56);
        Check.due("VAL", x.register(0), h + 50);
        Check.due("ENV", x.register(1), h + 30);
        SchemeEleven y = Check.loaded("(list (list 5 6))");
        Check.finish(y);
        // push of list, frame, push of list, push of 5, push of 6, then the pairs, the last argument's first
        words(y, "frame", h + 6, 4 + 16 * 5, code + 2 * 19, 6, 0, h);
        words(y, "pairs of a list", h + 6 + 10 + 18, 49, 13, 6, 49, 11, h + 34);
        words(y, "push of what it gave", h + 46, 49, h + 40, h);
    }

    private static void callObjects() {
        int h = 32768;
        SchemeEleven x = Check.loaded("(call/cc 5)");
        Check.finish(x);
        words(x, "continuation", h + 12, 5 + 32, 0);
        words(x, "pair of F", h + 16, 49, 11, 6);
        words(x, "pair of the continuation", h + 22, 49, h + 12, h + 16);
        Check.due("ARGS", x.register(3), h + 22);
        SchemeEleven y = Check.loaded("(apply 5 '(1 2))");
        Check.finish(y);
        words(y, "pair of F", h + 18, 49, 11, 6);
        words(y, "pair of 1", h + 24, 49, 3, h + 18);
        words(y, "pair of 2", h + 30, 49, 5, h + 24);
        Check.due("ARGS", y.register(3), h + 30);
    }

    /** (set! l (cons 1 l)) for ever: each turn makes garbage and keeps one pair. */
    private static void packing() {
        SchemeEleven x = Check.loaded("(define l '()) (define (g) (set! l (cons 7 l)) (g)) (g)");
        int packs = 0;
        int before = 0;
        for (int i = 0; i < 20000 && packs == 0; i++) {
            before = x.look(3);
            x.run(1);
            packs = x.look(4);
        }
        Check.due("packed once", packs, 1);
        Check.due("not ahead of its time", 49152 - before < 10, true);
        int end = x.look(3);
        Check.due("the heap is less", end < 48000, true);
        for (int place = end; place < 49152; place += 2) {
            if (x.word(place) != 0) {
                Check.due("word behind the last object, at " + place, x.word(place), 0);
            }
        }
        // all that is left lies one behind the other, and all its places are such
        boolean[] starts = new boolean[65536];
        int objects = 0;
        for (int place = 32768; place < end; place += 2 * (x.word(place) >> 4)) {
            starts[place] = true;
            objects++;
        }
        int strays = 0;
        for (int place = 32768; place < end; place += 2) {
            int w = x.word(place);
            strays += w >= 32768 && w < 49152 && (w & 1) == 0 && !starts[w] ? 1 : 0;
        }
        Check.due("there are objects", objects > 100, true);
        Check.due("words that are places of no object", strays, 0);
        Check.due("no error", x.look(6), 0);
        SchemeEleven y = Check.loaded("(define (b n) (if (= n 0) '() (cons n (b (- n 1))))) (define l (b 200)) "
            + "(define (sum l) (if (null? l) 0 (+ 1 (sum (cdr l))))) (define (lp n) (if (= n 0) (sum l) (begin (sum l) (lp (- n 1))))) (lp 60)");
        Check.due("packed often", Check.finish(y), 1);
        Check.due("the list is whole", Check.shown(y), "200");
        Check.due("packs", y.look(4) > 5, true);
    }

    private static void full() {
        SchemeEleven x = Check.loaded("(define l '()) (define (g n) (set! l (cons n l)) (g (+ n 1))) (g 1)");
        Check.due("full", Check.finish(x), 3);
        Check.due("error 6", x.look(6), 6);
        Check.due("no room for the object", 49152 - x.look(3) < 10, true);
        int packs = x.look(4);
        Check.load(x, "(g 1) 5");
        Check.due("it stays full", Check.finish(x), 3);
        Check.due("error 6 again", x.look(6), 6);
        Check.due("packed once more", x.look(4) > packs, true);
        Check.load(x, "(set! l 5) l");
        Check.due("but words without objects go on", Check.finish(x), 1);
        Check.load(x, "(list 1 2 3)");
        Check.due("and there is room again", Check.finish(x), 1);
        Check.due("what it gives", Check.shown(x), "(1 2 3)");
    }

    /** Many pairs are made together or not at all, so the heap is never cut in the midst of them. */
    private static void fullByMany() {
        String build = "(define (b n) (if (= n 0) '() (cons n (b (- n 1))))) (define a (b 100)) (define l '()) ";
        String[] makes = {"(apply list a)", "(apply f a)", "(list 1 2 3 4 5 6 7 8 9 10 11 12 13 14 15 16 17 18 19 20)"};
        for (String make : makes) {
            SchemeEleven x = Check.loaded(build + "(define (f . r) r) (define (g) (set! l (cons " + make + " l)) (g)) (g)");
            Check.due("full by " + make, Check.finish(x), 3);
            Check.due("error 6", x.look(6), 6);
            int place = 32768;
            while (place < x.look(3)) {
                int kind = x.word(place) & 15;
                Check.due("a kind, full by " + make, kind >= 1 && kind <= 5, true);
                place += 2 * Math.max(x.word(place) >> 4, 1);
            }
            Check.due("the end of the last object", place, x.look(3));
            Check.due("a word behind it", x.word(place), 0);
        }
    }

    /** Words of numbers from -16384 on lie among the heap's places, but are odd. */
    private static void numbersStay() {
        SchemeEleven x = Check.loaded("(define (b n) (if (= n -16334) '() (cons n (b (+ n 1))))) (define l (b -16384)) "
            + "(define (lp n) (if (= n 0) 0 (lp (- n 1)))) (lp 3000) l");
        Check.due("run", Check.finish(x), 1);
        Check.due("packed", x.look(4) > 2, true);
        StringBuilder want = new StringBuilder("(");
        for (int n = -16384; n < -16334; n++) {
            want.append(n == -16384 ? "" : " ").append(n);
        }
        Check.due("numbers behind packings", Check.shown(x), want.append(")").toString());
    }

    /** What constants and symbols hold is reached; what nothing holds goes. */
    private static void constantsReach() {
        SchemeEleven x = Check.loaded("(define p '(1 2)) (set-car! p (list 7 8 9)) (define (lp n) (if (= n 0) p (lp (- n 1)))) (lp 2000)");
        Check.due("run", Check.finish(x), 1);
        Check.due("packed", x.look(4) > 2, true);
        Check.due("a constant's part", Check.shown(x), "((7 8 9) 2)");
    }

    private static void formsBegin() {
        SchemeEleven x = Check.loaded("((lambda (a) (set! a 1) a) 5) car 7");
        int code = 8192 + 36;
        Check.due("run to the end of the first form", x.run(2 + 2 + 1 + 3 + 2), 2);
        Check.due("one is done", x.look(7), 1);
        Check.due("ENV of it", x.register(1) != 6, true);
        Check.due("one instruction more", x.run(1), 2);
        Check.due("R1", x.register(1), 6);
        Check.due("R2", x.register(2), 0);
        Check.due("R3", x.register(3), 6);
        Check.due("VAL", x.register(0), 16 + 2);
        Check.due("PC", x.word(x.register(7)), 001001);
        Check.due("the rest", x.run(20000), 1);
        Check.due("PC behind the code", x.register(7), x.look(2));
        Check.due("code begins behind the prelude", x.word(code), 0104002);
    }
}
