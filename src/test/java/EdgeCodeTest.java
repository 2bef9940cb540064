/** The edges that parts 2 and 5 of the document name for words: where they begin and end, none, the first, the last. */
public final class EdgeCodeTest {
    private static final int START = 8192 + 36;
    private static final int RETURN = 0104004;
    private static final int PUSH = 0104000;
    private static final int CALL = 0104003;
    private static final int CAR = 1024 + 6 * 12;

    public static void main(String[] args) {
        regions();
        symbolsWithoutValue();
        constantPairs();
        slots();
        ribs();
        choices();
        calls();
        oneOnly();
        tailPlaces();
        lambdaOrder();
        arguments();
        Check.finish();
    }

    private static int at(int words) {
        return START + 2 * words;
    }

    private static SchemeEleven coded(String text, int... words) {
        SchemeEleven x = Check.loaded(text);
        for (int i = 0; i < words.length; i++) {
            Check.due("word " + i + " of " + text, x.word(at(i)), words[i]);
        }
        Check.due("the end of code of " + text, x.look(2), at(words.length));
        return x;
    }

    private static void regions() {
        Check.sentence("STATICS lie from 1024 on, one behind the other, below 8192: SYMBOLS and PAIRS of constants; CODE from 8192 on, below 32768");
        SchemeEleven x = new SchemeEleven();
        Check.due("the first static", x.word(1024), 54);
        Check.due("the word before it", x.word(1022), 0);
        Check.due("the first word of code", x.word(8192), 012700);
        Check.due("the word before it", x.word(8190), 0);
        Check.due("the first word of the heap", x.word(32768), 0);
        Check.load(x, "(list 1)");
        x.run(20000);
        Check.due("the first object", x.word(32768), 49);
    }

    private static void symbolsWithoutValue() {
        Check.sentence("6 SYMBOL (value, 0 without one; its number, from 0 on)");
        SchemeEleven x = Check.loaded("zz (define zz 5)");
        int place = 1024 + 6 * 55;
        Check.due("the first number", x.word(1024 + 4), 0);
        Check.due("its value", x.word(place + 2), 0);
        Check.due("its number", x.word(place + 4), 55);
        Check.due("run", x.run(20000), 3);
        Check.due("error", x.look(6), 1);
        Check.load(x, "(define zz 5)");
        x.run(20000);
        Check.due("its value then", x.word(place + 2), 11);
        Check.due("its number", x.word(place + 4), 55);
    }

    private static void constantPairs() {
        Check.sentence("(a list's PAIRS are STATICS, made when its words come: itself, then those of its car, then of its cdr)");
        SchemeEleven fresh = new SchemeEleven();
        int s = fresh.look(1);
        SchemeEleven x = coded("'(((1) . 2) 3) '() '4", 012700, s, RETURN, 012700, 6, RETURN, 012700, 9, RETURN);
        int[] words = {49, s + 6, s + 18, 49, s + 12, 5, 49, 3, 6, 49, 7, 6};
        for (int i = 0; i < words.length; i++) {
            Check.due("static " + i, x.word(s + 2 * i), words[i]);
        }
        Check.due("the end of statics", x.look(1), s + 24);
        SchemeEleven y = coded("'(1) '(1)", 012700, s, RETURN, 012700, s + 6, RETURN);
        Check.due("two constants of one form are two", y.look(1), s + 12);
    }

    private static void slots() {
        Check.sentence("A VARIABLE, slot i (from 0 on) of the RIB d further out: d 0: 016100 x, x being 4 + 2 i");
        String names = "(a b c d e f g h i j k l m n o p q r s t)";
        coded("(lambda " + names + " a)", 0104002, at(3), RETURN, 40, 016100, 4, RETURN);
        coded("(lambda " + names + " t)", 0104002, at(3), RETURN, 40, 016100, 4 + 2 * 19, RETURN);
        coded("(lambda a a)", 0104002, at(3), RETURN, 1, 016100, 4, RETURN);
        coded("(lambda (a . b) b)", 0104002, at(3), RETURN, 3, 016100, 6, RETURN);
        coded("(lambda () 1)", 0104002, at(3), RETURN, 0, 012700, 3, RETURN);
    }

    private static void ribs() {
        Check.sentence("else 016100 2, d - 1 times 016000 2, 016000 x");
        coded("(lambda (a) (lambda () a))", 0104002, at(3), RETURN, 2, 0104002, at(7), RETURN, 0, 016100, 2, 016000, 4, RETURN);
        coded("(lambda (a b) (lambda () (lambda () (lambda () b))))",
            0104002, at(3), RETURN, 4, 0104002, at(7), RETURN, 0, 0104002, at(11), RETURN, 0, 0104002, at(15), RETURN,
            0, 016100, 2, 016000, 2, 016000, 2, 016000, 6, RETURN);
        Check.sentence("set!: E, then of a VARIABLE 010061 x, or 016104 2, d - 1 times 016404 2, 010064 x");
        coded("(lambda (a b) (set! b 1))", 0104002, at(3), RETURN, 4, 012700, 3, 010061, 6, 012700, 8, RETURN);
        coded("(lambda (a) (lambda () (set! a 1)))",
            0104002, at(3), RETURN, 2, 0104002, at(7), RETURN, 0, 012700, 3, 016104, 2, 010064, 4, 012700, 8, RETURN);
        coded("(lambda (a b) (lambda () (lambda () (lambda () (set! b 1)))))",
            0104002, at(3), RETURN, 4, 0104002, at(7), RETURN, 0, 0104002, at(11), RETURN, 0, 0104002, at(15), RETURN,
            0, 012700, 3, 016104, 2, 016404, 2, 016404, 2, 010064, 6, 012700, 8, RETURN);
        Check.gives("((((lambda (a) (lambda (b) (lambda (c) (set! a (+ a b c)) (list a b c)))) 1) 2) 3)", "(6 2 3)");
    }

    private static void choices() {
        Check.sentence("P: the third (without one: 012700 10)");
        coded("(if 1 2)", 012700, 3, 020027, 2, 001002, 0137, at(10), 012700, 5, RETURN, 012700, 8, RETURN);
        coded("(begin (if 1 2) 3)", 012700, 3, 020027, 2, 001002, 0137, at(11), 012700, 5, 0137, at(13), 012700, 8, 012700, 7, RETURN);
        coded("(if 1 (if 2 3))",
            012700, 3, 020027, 2, 001002, 0137, at(20), 012700, 5, 020027, 2, 001002, 0137, at(17), 012700, 7, RETURN,
            012700, 8, RETURN, 012700, 8, RETURN);
    }

    private static void calls() {
        Check.sentence("A CALL: the operator, 104000, each operand and 104000, 104003; not in TAIL place ahead of it 104001 Q, Q being behind it");
        coded("(car)", 013700, CAR + 2, 001001, 0104005, PUSH, CALL);
        coded("(begin (1) 2)", 0104001, at(6), 012700, 3, PUSH, CALL, 012700, 5, RETURN);
        coded("((1))", 0104001, at(6), 012700, 3, PUSH, CALL, PUSH, CALL);
        SchemeEleven x = Check.loaded("(1" + Check.times(" 2", 40) + ")");
        Check.due("40 operands", x.look(2), at(3 * 41 + 1));
        Check.due("the last word", x.word(at(3 * 41)), CALL);
    }

    private static void oneOnly() {
        Check.sentence("(begin E {E})");
        coded("(begin 1)", 012700, 3, RETURN);
        coded("(begin (begin 1))", 012700, 3, RETURN);
        coded("(let-syntax () 1)", 012700, 3, RETURN);
        coded("(car (begin 1))", 013700, CAR + 2, 001001, 0104005, PUSH, 012700, 3, PUSH, CALL);
    }

    private static void tailPlaces() {
        Check.sentence("Behind what isn't a CALL, an if or the last E of begin, let-syntax stands, in TAIL place, RETURN 104004");
        coded("car", 013700, CAR + 2, 001001, 0104005, RETURN);
        coded("(set! car 1)", 012700, 3, 05737, CAR + 2, 001001, 0104005, 010037, CAR + 2, 012700, 8, RETURN);
        coded("(define car 1)", 012700, 3, 010037, CAR + 2, 012700, CAR, RETURN);
        coded("(define-syntax car (syntax-rules ()))", 012700, CAR, RETURN);
        coded("(begin 1 (1))", 012700, 3, 012700, 3, PUSH, CALL);
        coded("(let-syntax () 1 (1))", 012700, 3, 012700, 3, PUSH, CALL);
        coded("(if 1 (1) (2))", 012700, 3, 020027, 2, 001002, 0137, at(11), 012700, 3, PUSH, CALL, 012700, 5, PUSH, CALL);
        coded("(lambda () (1) 2 (3))",
            0104002, at(3), RETURN, 0, 0104001, at(10), 012700, 3, PUSH, CALL, 012700, 5, 012700, 7, PUSH, CALL);
    }

    private static void lambdaOrder() {
        Check.sentence("then those of the lambdas in it, in the order of their CLOSES (those within them behind)");
        coded("(begin (lambda () (lambda () 1) (lambda () 2)) (lambda () (lambda () 3)))",
            0104002, at(5), 0104002, at(11), RETURN,
            0, 0104002, at(15), 0104002, at(19), RETURN,
            0, 0104002, at(23), RETURN,
            0, 012700, 3, RETURN, 0, 012700, 5, RETURN, 0, 012700, 7, RETURN);
        coded("(define (car) 1) 2", 0104002, at(7), 010037, CAR + 2, 012700, CAR, RETURN, 0, 012700, 3, RETURN, 012700, 5, RETURN);
    }

    private static void arguments() {
        Check.sentence("with m 1 one slot more, the list of the others, whose PAIRS are made behind the RIB, the first one first (all together)");
        SchemeEleven x = Check.loaded("((lambda (a . r) a) 1)");
        x.run(6);
        int rib = x.register(1);
        Check.due("the rib", x.word(rib), 3 + 16 * 4);
        Check.due("its last slot, without others", x.word(rib + 6), 6);
        Check.due("nothing is behind it", x.look(3), rib + 8);
        SchemeEleven y = Check.loaded("((lambda (a . r) a) 1 2 3)");
        y.run(10);
        rib = y.register(1);
        int[] words = {67, 6, 3, rib + 8, 49, 5, rib + 14, 49, 7, 6};
        for (int i = 0; i < words.length; i++) {
            Check.due("word " + i, y.word(rib + 2 * i), words[i]);
        }
        Check.due("ARGS", y.register(3), 6);
        SchemeEleven z = Check.loaded("((lambda () 1))");
        z.run(3);
        Check.due("a rib without slots", z.word(z.register(1)), 3 + 16 * 2);
        Check.due("the end", z.look(3), z.register(1) + 4);
        Check.sentence("a FRAME (X, ENV, CONT, ARGS) is made and becomes CONT; ARGS becomes ()");
        SchemeEleven f = Check.loaded("(car (cdr '(1)))");
        f.run(4);
        int frame = f.register(2);
        Check.due("ARGS", f.register(3), 6);
        Check.due("the frame's ARGS", f.word(f.word(frame + 8) + 2), 18);
        Check.due("the frame's CONT", f.word(frame + 6), 0);
        Check.due("the frame's ENV", f.word(frame + 4), 6);
        Check.due("the place to go on, a push", f.word(f.word(frame + 2)), PUSH);
    }
}
