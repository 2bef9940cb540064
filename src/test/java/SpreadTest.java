/** Part 4 of the document: what names mean, macros, and faults 2, 3 and 4 (promises 4, 5, 7). */
public final class SpreadTest {
    public static void main(String[] args) {
        prelude();
        hygiene();
        literals();
        patterns();
        localMacros();
        definingMacros();
        syntaxFaults();
        rulesFaults();
        useFaults();
        order();
        fullUses();
        fullNames();
        fullMacros();
        within();
        Check.finish();
    }

    private static String times(String part, int n) {
        StringBuilder all = new StringBuilder();
        for (int i = 0; i < n; i++) {
            all.append(part);
        }
        return all.toString();
    }

    private static String macro(String name, String rules) {
        return "(define-syntax " + name + " (syntax-rules " + rules + ")) ";
    }

    /** The fault of a text behind some macros, by its place in the text. */
    private static void behind(String macros, String text, int kind, int place) {
        Check.faults(macros + text, kind, macros.length() + place);
    }

    private static void prelude() {
        Check.gives("(let ((a 1) (b 2)) (list a b))", "(1 2)");
        Check.gives("(let lp ((i 0)) (if (= i 5) i (lp (+ i 1))))", "5");
        Check.gives("(letrec ((f (lambda (n) (if (= n 0) 'z (g n)))) (g (lambda (n) (f (- n 1))))) (f 9))", "z");
        Check.gives("(let* ((a 1) (b (+ a 1)) (a b)) (list a b))", "(2 2)");
        Check.gives("(let* () 5)", "5");
        Check.gives("(list (and) (and 1) (and 1 2) (and 1 #f 2))", "(#t 1 2 #f)");
        Check.gives("(list (or) (or 1) (or #f 2) (or #f #f))", "(#f 1 2 #f)");
        Check.gives("(list (cond) (cond (#f 1)) (cond (#f 1) (2 3)) (cond (#f 1) (else 2 3)))", "(#f #f 3 3)");
    }

    private static void hygiene() {
        Check.gives("(let ((t 5)) (or #f t))", "5");
        Check.gives("(let ((if list)) (or #f 2))", "2");
        Check.gives(macro("swap", "() ((_ a b) (let ((t a)) (set! a b) (set! b t)))")
            + "(define t 1) (define u 2) (swap t u) (list t u)", "(2 1)");
        Check.gives(macro("k", "() ((_) car)") + "(let ((car cdr)) ((k) '(1 2)))", "1");
        Check.gives(macro("q", "() ((_ a) '(a b))") + "(q z)", "(z b)");
        Check.gives(macro("q", "() ((_ a) (let ((b 1)) (list 'b b a)))") + "(let ((b 2)) (q b))", "(b 1 2)");
        Check.gives(macro("f", "() ((_ a) (lambda (a b) (list a b)))") + "((f b) 1 2)", "(1 2)");
        Check.gives("(let ((quote list)) '5)", "(5)");
        Check.gives("(let ((let list)) (let 1 2))", "(1 2)");
        Check.gives("(let ((x 'out)) (let-syntax ((m (syntax-rules () ((_) x)))) (let ((x 'in)) (m))))", "out");
    }

    private static void literals() {
        String in = macro("m", "(in) ((_ in) 'lit) ((_ a) 'any)");
        Check.gives(in + "(m in)", "lit");
        Check.gives(in + "(m out)", "any");
        Check.gives(in + "(m 5)", "any");
        Check.gives(in + "(let ((in 1)) (m in))", "any");
        Check.gives("(let ((else #f)) (cond (else 1)))", "#f");
        Check.gives(macro("c", "() ((_ a) (cond (#f 1) (else a)))") + "(let ((else #f)) (c 7))", "7");
        Check.gives("(let ((v 1)) (let-syntax ((m (syntax-rules (v) ((_ v) 'same) ((_ a) 'other)))) (m v)))", "same");
        Check.gives("(let ((v 1)) (let-syntax ((m (syntax-rules (v) ((_ v) 'same) ((_ a) 'other)))) (let ((v 2)) (m v))))", "other");
        Check.gives(macro("m", "(if) ((_ if) 'key) ((_ a) 'other)") + "(m if)", "key");
        Check.gives(macro("m", "(let) ((_ let) 'macro) ((_ a) 'other)") + "(m let)", "macro");
        Check.gives(macro("m", "(_) ((_ _) 'all)") + "(m 5)", "all");
    }

    private static void patterns() {
        Check.gives(macro("m", "() ((_ a ...) '(a ... end))") + "(list (m) (m 1) (m 1 2))", "((end) (1 end) (1 2 end))");
        Check.gives(macro("m", "() ((_ (a b ...) ...) '((b ... a) ...))") + "(m (1 2 3) (4))", "((2 3 1) (4))");
        Check.gives(macro("m", "() ((_ (a ...) ...) '((a ...) ...))") + "(m (1 2) () (3))", "((1 2) () (3))");
        Check.gives(macro("m", "() ((_ (a ...) (b ...)) '((a . b) ...))") + "(m (1 2) (3 4))", "((1 . 3) (2 . 4))");
        Check.gives(macro("m", "() ((_ (a . b)) '(b a))") + "(list (m (1 2 3)) (m (1 . 2)))", "(((2 3) 1) (2 1))");
        Check.gives(macro("m", "() ((_ a ...) '(a ... . z))") + "(m 1 2)", "(1 2 . z)");
        Check.gives(macro("m", "() ((_ 1) 'one) ((_ #t) 'true) ((_ #f) 'false) ((_ ()) 'empty) ((_ _) 'else)")
            + "(list (m 1) (m #t) (m #f) (m ()) (m 2) (m (1)))", "(one true false empty else else)");
        Check.gives(macro("m", "() ((_ (a ...) ...) '(x (a ... y) ... z))") + "(m (1) (2 3))", "(x (1 y) (2 3 y) z)");
        Check.gives(macro("m", "() ((_ (1 a) ...) '(a ...)) ((_ b ...) 'no)") + "(list (m (1 2) (1 3)) (m (1 2) (2 3)))", "((2 3) no)");
        Check.gives(macro("m", "() ((_ (a ...)) 'list) ((_ b) 'none)") + "(list (m (1 2)) (m (1 . 2)))", "(list none)");
        Check.gives(macro("m", "() ((_ (a b) ...) '((a ...) (b ...)))") + "(m (1 2) (3 4))", "((1 3) (2 4))");
        Check.gives(macro("m", "() ((nothing a) '(nothing a))") + "(m 1)", "(nothing 1)");
    }

    private static void localMacros() {
        Check.gives("(let-syntax ((a (syntax-rules () ((_) 1))) (a (syntax-rules () ((_) 2)))) (a))", "1");
        Check.gives("(let-syntax ((if (syntax-rules () ((_ a b) (list a b))))) (if 1 2))", "(1 2)");
        Check.gives("(let-syntax ((or (syntax-rules () ((_) 1) ((_ a) (or))))) (or 5))", "#f");
        Check.gives("(let-syntax ((f (syntax-rules () ((_) 1))) (g (syntax-rules () ((_) (f))))) (let ((f list)) (f 2)))", "(2)");
        Check.errs("(let-syntax ((f (syntax-rules () ((_) 1))) (g (syntax-rules () ((_) (f))))) (g))", 1);
        Check.gives("(let-syntax () 1 2)", "2");
        Check.gives("(let-syntax ((o (syntax-rules () ((_ k) (let-syntax ((i (syntax-rules () ((_ y) (list k y))))) (i 5)))))) (o 7))", "(7 5)");
        Check.errs("(let-syntax ((m (syntax-rules () ((_) 1)))) (m)) (m)", 1);
    }

    private static void definingMacros() {
        Check.gives(macro("def", "() ((_ n v) (define n v))") + "(def q 5) q", "5");
        Check.gives(macro("def", "() ((_) (define hidden 6))") + "(def) hidden", "6");
        Check.gives(macro("mk", "() ((_ n r) (define-syntax n r))") + "(mk f (syntax-rules () ((_ a) '(a a)))) (f 1)", "(1 1)");
        Check.gives("(define (f) (let ((a 1)) a)) " + macro("let", "() ((_ a ...) 'mine)") + "(list (let) (f) (or #f 3))", "(mine 1 mine)");
        Check.gives(macro("if", "() ((_ a ...) '(a ...))") + "(if)", "()");
        Check.gives(macro("f", "() ((_) 1)") + "(define (g) (f)) " + macro("f", "() ((_) 2)") + "(list (g) (f))", "(1 2)");
        SchemeEleven x = Check.loaded(macro("f", "() ((_) 1)") + macro("g", "() ((_) (f))"));
        Check.due("macros", x.look(9), 8);
        Check.load(x, macro("f", "() ((_) '(2 3))") + macro("car", "() ((_ a) 'a)"));
        Check.due("macros, one anew", x.look(9), 9);
        Check.load(x, "(list (g) (car z))");
        Check.due("run", Check.finish(x), 1);
        Check.due("macros of other texts", Check.shown(x), "((2 3) z)");
        Check.faults(x, macro("f", "() ((_) 9)") + macro("h", "() ((_) 9)") + "(if)", 2, 88);
        Check.load(x, "(g)");
        Check.finish(x);
        Check.due("as before the fault", Check.shown(x), "(2 3)");
    }

    private static void syntaxFaults() {
        String[] inner = {
            "()", "(1 . 2)", "(quote)", "(quote 1 2)", "(if)", "(if 1)", "(if 1 2 3 4)", "(set! a)", "(set! 5 1)",
            "(set! a 1 2)", "(set! if 1)", "(set! let 1)", "(lambda)", "(lambda (a))", "(lambda (a a) 1)",
            "(lambda (a . a) 1)", "(lambda (1) 1)", "(lambda 1 1)", "(lambda (a . 1) 1)", "(begin)", "if", "let",
            "(let-syntax)", "(let-syntax ())", "(let-syntax 5 1)", "(let-syntax (a) 1)", "(let-syntax ((a)) 1)",
            "(let-syntax ((1 2)) 1)", "(let-syntax ((a b c)) 1)", "(let-syntax ((a b) . c) 1)", "(define a 1)",
            "(define-syntax a (syntax-rules ()))", "(let . 1)", "(let ((a 1)) a . b)", "(if 1 . 2)", "define",
        };
        for (String form : inner) {
            Check.faults("(car " + form + ")", 2, 5);
            Check.faults("(lambda () 1 " + form + ")", 2, 13);
        }
        String[] outer = {
            "(define)", "(define a)", "(define a 1 2)", "(define 5 1)", "(define if 1)", "(define let 1)",
            "(define (let) 1)", "(define (5) 1)", "(define (f))", "(define (f a a) 1)", "(define (f 5) 1)",
            "(define (f . 5) 1)", "(define ((f) a) 1)", "(define a . 1)", "(define-syntax)", "(define-syntax a)",
            "(define-syntax 5 (syntax-rules ()))", "(define-syntax (a) (syntax-rules ()))",
            "(define-syntax a (syntax-rules ()) 1)", "(define-syntax . a)",
        };
        for (String form : outer) {
            Check.faults("1 " + form, 2, 2);
        }
        Check.faults("(begin (define a 1))", 2, 7);
        behind(macro("m", "() ((_) (define-syntax g (syntax-rules ())))"), "(m)", 2, 0);
        behind(macro("m", "() ((_ n) (define-syntax n (syntax-rules ())))"), "(m f)", 2, 0);
        behind(macro("m", "() ((_ r) (define-syntax n r))"), "(m (syntax-rules ()))", 2, 0);
        Check.loaded("(lambda (a b c d e f g h i j k l m n o p q r s . t) 1)");
        Check.faults("(lambda (a b c d e f g h i j k l m n o p q r s t . u) 1)", 2, 0);
        Check.faults("(lambda (a b c d e f g h i j k l m n o p q r s t u) 1)", 2, 0);
        Check.loaded("(list" + times(" 1", 40) + ")");
        Check.faults("(list" + times(" 1", 41) + ")", 2, 0);
        behind(macro("m", "() ((_ a) (if a))"), " (m 5)", 2, 1);
        behind(macro("m", "() ((_ a) (car a))"), " (m  (if))", 2, 5);
    }

    private static void rulesFaults() {
        String[] rules = {
            "5", "x", "()", "(syntax-rules)", "(other ())", "(syntax-rules 5)", "(syntax-rules (5))",
            "(syntax-rules (a . b))", "(syntax-rules () 5)", "(syntax-rules () ((_)))", "(syntax-rules () ((_) 1 2))",
            "(syntax-rules () ((_) 1) . 5)", "(syntax-rules () (_ 1))", "(syntax-rules () (() 1))",
            "(syntax-rules () ((5) 1))", "(syntax-rules () ((_ . a) 1))", "(syntax-rules () ((_ a a) 1))",
            "(syntax-rules () ((_ a (b a)) 1))", "(syntax-rules () ((_ ...) 1))", "(syntax-rules () ((_ a ... b) 1))",
            "(syntax-rules () ((_ (... a)) 1))", "(syntax-rules () ((_ (a . ...)) 1))",
            "(syntax-rules () ((_ (a ... . b)) 1))", "(syntax-rules () ((_ a ... ...) 1))",
            "(syntax-rules () ((_ ((a ...) ...) ...) 1))", "(syntax-rules () ((_ a ...) a))",
            "(syntax-rules () ((_ a) (a ...)))", "(syntax-rules () ((_ a) (5 ...)))", "(syntax-rules () ((_ a ...) (a ... ...)))",
            "(syntax-rules () ((_ a b ...) ((a b) ...)))", "(syntax-rules () ((_ (a ...) ...) (a ...)))",
            "(syntax-rules () ((_ (a ...) ...) ((a ... ...))))", "(syntax-rules () ((_ a ...) ((a ...) ...)))",
            "(syntax-rules () ((_ a) ...))", "(syntax-rules () ((_ a) (... a)))", "(syntax-rules () ((_ a) (a . ...)))",
            "(syntax-rules (...) ((_ ...) 1))", "(syntax-rules () ((_ a ...) (b ...)))",
        };
        for (String rule : rules) {
            Check.faults("(define-syntax m " + rule + ")", 3, 17);
            Check.faults("(let-syntax ((m " + rule + ")) (if))", 3, 16);
        }
        Check.loaded(macro("m", "(a b) ((_ a a b) 1) ((_ _ _) 2)"));
        Check.loaded(macro("m", "() ((_ (a ... ) (1 ...)) (a ... a ...))"));
        Check.faults("(let-syntax ((a (syntax-rules ())) (b 5)) 1)", 3, 38);
    }

    private static void useFaults() {
        String one = macro("m", "() ((_ a) a)");
        behind(one, "(m)", 3, 0);
        behind(one, "(car (m 1 2))", 3, 5);
        behind(one, "(m 1 . 2)", 2, 0);
        behind(macro("m", "() ((_ (a ...) (b ...)) '((a b) ...))"), "(m (1 2) (3))", 3, 0);
        Check.faults("(let ((a)) 1)", 3, 0);
        Check.faults("(let* ((a 1)))", 3, 0);
        Check.faults("(let* ((a 1) (b)) 1)", 3, 0);
    }

    /** Forms are taken in their order; a datum is looked at ahead of its parts; lambdas come last. */
    private static void order() {
        Check.faults("(car) (if) (define)", 2, 6);
        Check.faults("(if (if) 1 2 3)", 2, 0);
        Check.faults("(car (lambda () (if)) (quote))", 2, 22);
        Check.faults("(car (lambda (a a) (if)) (quote))", 2, 5);
        Check.faults("(car (lambda () (lambda () (if))) (lambda () (begin)))", 2, 45);
        Check.faults("(define if (quote))", 2, 0);
        Check.faults("(set! if (quote))", 2, 0);
        Check.faults("(define-syntax m 5 6)", 2, 0);
        Check.faults("(let-syntax ((m 5)) . 1)", 2, 0);
        Check.faults("(let-syntax ((m 5) (1 2)) 1)", 2, 0);
    }

    private static void fullUses() {
        String ten = macro("b", "() ((_ x) (begin x x x x x x x x x x))") + macro("u", "() ((_) 1)");
        // a use of 10 uses of 10 uses: 111 in all
        String nine = times("(b (b (u)))", 9);
        Check.loaded(ten + nine + "(u)");
        behind(ten + nine, "(u) (u)", 4, 4);
        behind(macro("r", "() ((_ x) (r x))"), "(r 1)", 4, 0);
        behind(macro("r", "() ((_ x) (if x (r x)))"), "(r 1)", 4, 3);
        behind(macro("r", "() ((_ x) (r (x)))"), "(r 1)", 4, 0);
        behind(macro("r", "() ((_ x) (r (x x)))"), "(r 1)", 4, 0);
        fullMade();
        fullDatum();
    }

    /** (begin 1 1 .. 1) with n numbers: a pair and an alias, n pairs and numbers, and (). */
    private static String numbers(String name, int n) {
        return macro(name, "() ((_) (begin " + times("1 ", n) + "))");
    }

    private static void fullMade() {
        // 19 uses of 201, and one of 181
        String macros = numbers("m", 99) + numbers("n", 89) + macro("u", "() ((_ x) x) ((_) 1)");
        String uses = times("(m)", 19);
        Check.loaded(macros + uses + "(n) (u 1)");
        behind(macros + uses, "(n) (u)", 4, 4);
        behind(macros + uses, "(m)", 4, 0);
        // lengths that are unlike are found ahead of the pairs that they would give, but not of others
        String unlike = macro("z", "() ((_ (a ...) (b ...)) ((a b) ...))") + macro("y", "() ((_ (a ...) (b ...)) (1 (a b) ...))");
        behind(macros + unlike + uses + "(n)", "(z (1) ())", 3, 0);
        behind(macros + unlike + uses + "(n)", "(y (1) ())", 4, 0);
        behind(macros + unlike + uses + "(n)", "(z (1) (2))", 4, 0);
    }

    private static void fullDatum() {
        String none = macro("i", "() ((_ a ...) 1)");
        String thrice = macro("t", "() ((_ x) (i x x x))") + macro("s", "() ((_ x) (i x x x 1))");
        SchemeEleven x = Check.loaded(none + thrice);
        // 665 pairs, numbers and () are 1331: three of them, four pairs, i and ()
        Check.due("3,999 parts", Check.load(x, "(t (" + times("1 ", 665) + "))"), 4);
        Check.faults(x, " (s (" + times("1 ", 665) + "))", 4, 1);
        String wrap = macro("w", "() ((_ () x) 1) ((_ (k . r) x) (w r (x)))");
        Check.loaded(wrap + "(w (" + times("1 ", 99) + ") 5)");
        behind(wrap, "(w (" + times("1 ", 100) + ") 5)", 4, 0);
    }

    private static void fullNames() {
        String lambda = "(lambda (a b c d e f g h i j k l m n o p q r s t) 1)";
        String sixty = macro("y", "() ((_ x) (begin " + times("x ", 60) + "))");
        SchemeEleven x = Check.loaded(sixty);
        String all = times("(y " + lambda + ")", 10);
        Check.due("12,000 names", Check.load(x, all + "(lambda () 1) (let-syntax () 2)"), 13);
        x = Check.loaded(sixty);
        Check.faults(x, all + "(lambda (a) 1)", 4, all.length());
        Check.faults(x, all + "(lambda (a) 1 . 2)", 2, all.length());
        Check.faults(x, all + "(let-syntax ((a 5)) 1)", 4, all.length());
        Check.faults(x, all + "(let-syntax ((5 5)) 1)", 2, all.length());
        Check.faults(x, all + "(car (lambda (a) (if)) (if))", 2, all.length() + 23);
    }

    private static void fullMacros() {
        SchemeEleven x = new SchemeEleven();
        StringBuilder some = new StringBuilder();
        for (int i = 0; i < 27; i++) {
            some.append("(define-syntax m").append(i).append(" (syntax-rules ())) ");
        }
        Check.due("27 macros", Check.load(x, some.toString()), 27);
        Check.due("27 macros more", Check.load(x, some.toString().replace(" m", " n")), 54);
        Check.due("60 macros", x.look(9), 60);
        Check.faults(x, "1 (define-syntax o (syntax-rules ()))", 4, 2);
        Check.faults(x, "1 (define-syntax o (syntax-rules))", 3, 19);
        Check.due("one anew", Check.load(x, "(define-syntax m5 (syntax-rules () ((_) 1))) (m5)"), 56);

        fullParts();
    }

    private static final String[] PRELUDE = {
        "(syntax-rules () ((_ ((v e) ...) b c ...) ((lambda (v ...) b c ...) e ...))"
            + " ((_ n ((v e) ...) b c ...) ((letrec ((n (lambda (v ...) b c ...))) n) e ...)))",
        "(syntax-rules () ((_ ((v e) ...) b c ...) (let ((v 0) ...) (set! v e) ... (let () b c ...))))",
        "(syntax-rules () ((_ () b c ...) (let () b c ...))"
            + " ((_ (x y ...) b c ...) (let (x) (let* (y ...) b c ...))))",
        "(syntax-rules () ((_) #t) ((_ a) a) ((_ a b ...) (if a (and b ...) #f)))",
        "(syntax-rules () ((_) #f) ((_ a) a) ((_ a b ...) (let ((t a)) (if t t (or b ...)))))",
        "(syntax-rules (else) ((_) #f) ((_ (else a b ...)) (begin a b ...))"
            + " ((_ (a b c ...) d ...) (if a (begin b c ...) (cond d ...))))",
    };

    /** Of lists that end with (): each list and each simple datum but the first is a part and a pair's. */
    private static int partsOf(String datum) {
        int n = 0;
        for (String token : datum.replace("(", " ( ").replace(")", " ) ").trim().split(" +")) {
            n += token.equals(")") ? 0 : 1;
        }
        return 2 * n - 1;
    }

    private static String rules(int numbers) {
        return "(syntax-rules () ((_) (begin " + times("1 ", numbers) + ")))";
    }

    private static String told(String name, int numbers) {
        return "(define-syntax " + name + " " + rules(numbers) + ") ";
    }

    private static void fullParts() {
        int left = 3000;
        for (String one : PRELUDE) {
            left -= partsOf(one);
        }
        SchemeEleven x = new SchemeEleven();
        Check.due("many parts", Check.load(x, told("p", 700)), 1);
        left -= partsOf(rules(700));
        int last = (left - partsOf(rules(0))) / 2;
        Check.due("the last rules take all that is left", left - partsOf(rules(last)), 0);
        Check.faults(x, told("q", last + 1), 4, 0);
        // a rule less, and its parts, so that the sum is odd
        int odd = last - (partsOf(rules(0)) - 1) / 2;
        Check.faults(x, told("o", 0) + told("q", odd), 4, told("o", 0).length());
        SchemeEleven y = new SchemeEleven();
        Check.load(y, told("p", 700));
        Check.due("2,999 parts", Check.load(y, told("o", 0) + told("q", odd - 1)), 3);
        Check.due("just 3,000 parts", Check.load(x, told("q", last)), 2);
        Check.faults(x, "1 " + told("r", 0), 4, 2);
        Check.faults(x, "1 " + told("p", 701), 4, 2);
        Check.due("what is told anew takes the elder's place", Check.load(x, told("p", 1) + told("r", 600)), 4);
        Check.due("once more", Check.load(x, told("r", 650)), 5);
        Check.due("the rules still hold", Check.load(x, "(p) (q) (r) (let ((a 1)) (cond (#f 1) (else (and a (or #f 5)))))"), 9);
        Check.due("run", Check.finish(x), 1);
        Check.due("what they give", Check.shown(x), "5");
    }

    /** Each and is one if deeper; what the macros give stands in the place of their uses. */
    private static void within() {
        Check.loaded("(and" + times(" 1", 60) + ")");
        Check.faults("(and" + times(" 1", 60) + " 2)", 4, 4 + 59 * 2 + 1);
        String down = macro("d", "() ((_ a) a) ((_ a b ...) (begin a (d b ...)))");
        Check.loaded(down + "(d" + times(" 1", 60) + ")");
        Check.faults(down + "(d" + times(" 1", 61) + ")", 4, down.length() + 2 + 59 * 2 + 1);
        String lambdas = macro("l", "() ((_ a) a) ((_ a b ...) (lambda () (l b ...)))");
        Check.loaded(lambdas + "(l" + times(" 1", 60) + ")");
        Check.faults(lambdas + "(l" + times(" 1", 60) + " 2)", 4, lambdas.length());
        Check.loaded(lambdas + "(define q (l" + times(" 1", 60) + "))");
    }
}
