/** Part 5 of the document: the words that forms are made to (promises 4, 8). */
public final class CodeTest {
    /** Where the first form's words begin, behind those of the prelude. */
    private static final int START = 8192 + 36;
    private static final int RETURN = 0104004;
    private static final int PUSH = 0104000;

    public static void main(String[] args) {
        constants();
        globals();
        variables();
        choices();
        definitions();
        calls();
        lambdas();
        sequences();
        uses();
        noRoom();
        Check.finish();
    }

    private static int symbol(int number) {
        return 1024 + 6 * number;
    }

    /** The place of car's symbol (12) and of a name that is new (55). */
    private static final int CAR = symbol(12);
    private static final int NEW = symbol(55);

    private static SchemeEleven coded(String text, int... words) {
        SchemeEleven x = Check.loaded(text);
        for (int i = 0; i < words.length; i++) {
            Check.due("word " + i + " of " + text, x.word(START + 2 * i), words[i]);
        }
        Check.due("end of code of " + text, x.look(2), START + 2 * words.length);
        return x;
    }

    private static int at(int words) {
        return START + 2 * words;
    }

    private static void constants() {
        coded("5", 012700, 11, RETURN);
        coded("-1", 012700, 65535, RETURN);
        coded("#t #f", 012700, 4, RETURN, 012700, 2, RETURN);
        coded("'()", 012700, 6, RETURN);
        coded("'car", 012700, CAR, RETURN);
        coded("'zz", 012700, NEW, RETURN);
        int statics = new SchemeEleven().look(1);
        SchemeEleven x = coded("'((1 2) 3 . 4)", 012700, statics, RETURN);
        int[] words = {49, statics + 6, statics + 18, 49, 3, statics + 12, 49, 5, 6, 49, 7, 9};
        for (int i = 0; i < words.length; i++) {
            Check.due("static " + i, x.word(statics + 2 * i), words[i]);
        }
        Check.due("end of statics", x.look(1), statics + 24);
        coded("'(car zz)", 012700, statics + 6, RETURN);
    }

    private static void globals() {
        coded("car", 013700, CAR + 2, 001001, 0104005, RETURN);
        coded("zz", 013700, NEW + 2, 001001, 0104005, RETURN);
        coded("(set! zz 1)", 012700, 3, 005737, NEW + 2, 001001, 0104005, 010037, NEW + 2, 012700, 8, RETURN);
    }

    private static void variables() {
        coded("(lambda (p q) q)", 0104002, at(3), RETURN, 4, 016100, 6, RETURN);
        coded("(lambda (p) (lambda () p))",
            0104002, at(3), RETURN, 2, 0104002, at(7), RETURN, 0, 016100, 2, 016000, 4, RETURN);
        coded("(lambda (p) (lambda () (lambda () p)))",
            0104002, at(3), RETURN, 2, 0104002, at(7), RETURN, 0, 0104002, at(11), RETURN,
            0, 016100, 2, 016000, 2, 016000, 4, RETURN);
        coded("(lambda (p) (set! p 1))",
            0104002, at(3), RETURN, 2, 012700, 3, 010061, 4, 012700, 8, RETURN);
        coded("(lambda (p q) (lambda () (set! q 1)))",
            0104002, at(3), RETURN, 4, 0104002, at(7), RETURN,
            0, 012700, 3, 016104, 2, 010064, 6, 012700, 8, RETURN);
        coded("(lambda (p) (lambda () (lambda () (set! p 1))))",
            0104002, at(3), RETURN, 2, 0104002, at(7), RETURN, 0, 0104002, at(11), RETURN,
            0, 012700, 3, 016104, 2, 016404, 2, 010064, 4, 012700, 8, RETURN);
    }

    private static void choices() {
        coded("(if 1 2 3)",
            012700, 3, 020027, 2, 001002, 000137, at(10), 012700, 5, RETURN, 012700, 7, RETURN);
        coded("(if 1 2)",
            012700, 3, 020027, 2, 001002, 000137, at(10), 012700, 5, RETURN, 012700, 8, RETURN);
        coded("(begin (if 1 2 3) 4)",
            012700, 3, 020027, 2, 001002, 000137, at(11), 012700, 5, 000137, at(13), 012700, 7,
            012700, 9, RETURN);
        coded("(begin (if 1 2) 4)",
            012700, 3, 020027, 2, 001002, 000137, at(11), 012700, 5, 000137, at(13), 012700, 8,
            012700, 9, RETURN);
    }

    private static void definitions() {
        coded("(define zz 1)", 012700, 3, 010037, NEW + 2, 012700, NEW, RETURN);
        coded("(define (zz p . q) p)",
            0104002, at(7), 010037, NEW + 2, 012700, NEW, RETURN, 3, 016100, 4, RETURN);
        coded("(define-syntax zz (syntax-rules ()))", 012700, NEW, RETURN);
        coded("(define zz 1) 5", 012700, 3, 010037, NEW + 2, 012700, NEW, RETURN, 012700, 11, RETURN);
    }

    private static void calls() {
        coded("(car 1 2)",
            013700, CAR + 2, 001001, 0104005, PUSH, 012700, 3, PUSH, 012700, 5, PUSH, 0104003);
        coded("(car)", 013700, CAR + 2, 001001, 0104005, PUSH, 0104003);
        coded("(1 (2) 3)",
            012700, 3, PUSH, 0104001, at(9), 012700, 5, PUSH, 0104003, PUSH, 012700, 7, PUSH, 0104003);
        coded("(begin (1) 2)", 0104001, at(6), 012700, 3, PUSH, 0104003, 012700, 5, RETURN);
    }

    /** A form's lambdas come behind it, in the order of their closes; those within them behind all. */
    private static void lambdas() {
        coded("(1 (lambda () (lambda () 2)) (lambda (p . q) 3))",
            012700, 3, PUSH, 0104002, at(10), PUSH, 0104002, at(14), PUSH, 0104003,
            0, 0104002, at(18), RETURN,
            3, 012700, 7, RETURN,
            0, 012700, 5, RETURN);
        coded("(lambda p p) 1", 0104002, at(3), RETURN, 1, 016100, 4, RETURN, 012700, 3, RETURN);
        coded("(lambda () 1 (2) (3))",
            0104002, at(3), RETURN, 0, 012700, 3, 0104001, at(12), 012700, 5, PUSH, 0104003,
            012700, 7, PUSH, 0104003);
    }

    private static void sequences() {
        coded("(begin 1 2 3)", 012700, 3, 012700, 5, 012700, 7, RETURN);
        coded("(let-syntax () 1 2)", 012700, 3, 012700, 5, RETURN);
        coded("(1 (begin 2 3))", 012700, 3, PUSH, 012700, 5, 012700, 7, PUSH, 0104003);
    }

    private static void uses() {
        coded("(let ((p 1)) p)",
            0104002, at(7), PUSH, 012700, 3, PUSH, 0104003, 2, 016100, 4, RETURN);
        coded("(and)", 012700, 4, RETURN);
        coded("(cond (1 2))",
            012700, 3, 020027, 2, 001002, 000137, at(10), 012700, 5, RETURN, 012700, 2, RETURN);
        coded("(let-syntax ((m (syntax-rules () ((_ a) (begin a a))))) (m 1))", 012700, 3, 012700, 3, RETURN);
    }

    /** Without room for a word the fault is at the datum whose word it is. */
    private static void noRoom() {
        String ten = "(define-syntax q (syntax-rules () ((_ x) (begin x x x x x x x x x x))))";
        String[] texts = {"(car 1 2)", "(lambda () 1)", "(define (f) 1)", "(if 1 2)", "(set! car 3)", "(define z 1)", "(list (if 5 6))"};
        int[][] places = {
            // the place of each word, as they come
            {1, 1, 1, 1, 0, 5, 5, 0, 7, 7, 0, 0}, {0, 0, 0, 0, 11, 11, 11},
            {0, 0, 0, 0, 0, 0, 0, 0, 12, 12, 12}, {4, 4, 0, 0, 0, 0, 0, 6, 6, 6, 0, 0, 0},
            {10, 10, 0, 0, 0, 0, 0, 0, 0, 0, 0}, {10, 10, 0, 0, 0, 0, 0},
            {1, 1, 1, 1, 0, 10, 10, 6, 6, 6, 6, 6, 12, 12, 6, 6, 6, 6, 0, 0},
        };
        for (int t = 0; t < texts.length; t++) {
            for (int room = 0; room <= places[t].length; room++) {
                SchemeEleven x = Check.loaded(ten);
                fill(x, room);
                if (room < places[t].length) {
                    Check.faults(x, texts[t], 4, places[t][room]);
                } else {
                    Check.due("load of " + texts[t], Check.load(x, texts[t]) != -1, true);
                }
            }
        }
    }

    /** Just so many words of code are left then. */
    private static void fill(SchemeEleven x, int room) {
        String[] texts = {"(q (q (q (begin 1 1))))", "(q (q (q 1)))", "(q (q 1))", "(q 1)", "1"};
        int[] sizes = {4001, 2001, 201, 21, 3};
        int left = (32768 - x.look(2)) / 2 - room;
        for (int i = 0; i < texts.length; i++) {
            for (int j = 0; j < 10 && left >= sizes[i] + 30; j++) {
                Check.load(x, texts[i]);
                left -= sizes[i];
            }
        }
        // 5 and 3 words make every number from 8 on
        while (left > 0) {
            boolean three = left % 5 != 0;
            Check.load(x, three ? "1" : "(begin 1 2)");
            left -= three ? 3 : 5;
        }
        Check.due("words that are left", (32768 - x.look(2)) / 2, room);
    }
}
