/** The edges that parts 4 and 5 of the document name: shapes of forms, rules, uses, and what is full. */
public final class EdgeSpreadTest {
    public static void main(String[] args) {
        scopes();
        keywords();
        ninthName();
        quotes();
        choices();
        settings();
        lambdas();
        lambdaNames();
        namesOfOneSymbol();
        sequences();
        localMacros();
        definitions();
        definedNames();
        macroDefinitions();
        operands();
        improper();
        nothingElse();
        rulesShape();
        rulesName();
        patternShape();
        twins();
        dotsInPattern();
        depthOfPattern();
        dotsInTemplate();
        depthOfTemplate();
        dotsAlone();
        dotsAtLast();
        literals();
        listsOfParts();
        constants();
        noRuleFits();
        unlikeLengths();
        aliases();
        Check.finish();
    }

    private static String macro(String name, String rules) {
        return "(define-syntax " + name + " (syntax-rules " + rules + ")) ";
    }

    private static void behind(String macros, String text, int kind, int place) {
        Check.faults(macros + text, kind, macros.length() + place);
    }

    /** The shape is refused as a form, as an operand and in a lambda. */
    private static void refused(String... shapes) {
        for (String shape : shapes) {
            Check.faults(" " + shape, 2, 1);
            Check.faults("(car " + shape + ")", 2, 5);
            Check.faults("(lambda () " + shape + ")", 2, 11);
        }
    }

    private static void taken(String... shapes) {
        for (String shape : shapes) {
            Check.loaded(" " + shape);
            Check.loaded("(car " + shape + ")");
            Check.loaded("(lambda () " + shape + ")");
        }
    }

    private static final String[] KEYWORDS = {"quote", "if", "set!", "lambda", "begin", "define", "define-syntax", "let-syntax"};

    /** Lambdas' words come behind all others, but each has the scopes in which it stands. */
    private static void scopes() {
        Check.sentence("WHAT A NAME MEANS: the first in its SCOPES told for just it");
        Check.gives("(define a 7) (define b 8) (list ((lambda (a) a) 1) ((lambda () a)) ((lambda (b) (list a b)) 2) ((lambda () b)))", "(1 7 (7 2) 8)");
        Check.gives("(define b 8) (define c 9) ((lambda (a) (list ((lambda (b) (list a b)) 2) ((lambda (c) (list a b c)) 3) ((lambda () c)))) 1)", "((1 2) (1 8 3) 9)");
        Check.gives("((lambda (a) ((lambda (a) ((lambda () (set! a (+ a 1)) a))) (+ a 10))) 1)", "12");
        Check.gives("(define a 7) (let-syntax ((m (syntax-rules () ((_) a)))) (list (m) ((lambda (a) (list a (m))) 1) ((lambda () (m)))))", "(7 (1 7) 7)");
        Check.gives("(define (m) 5) (list (let-syntax ((m (syntax-rules () ((_) 1)))) ((lambda () (m)))) (m) ((lambda () (m))))", "(1 5 5)");
    }

    private static void keywords() {
        Check.sentence("a KEYWORD (the first eight SYMBOLS, unless define-syntax told a macro of that name)");
        for (String keyword : KEYWORDS) {
            refused(keyword, "(set! " + keyword + " 1)", "(" + keyword + ")");
            Check.gives(macro(keyword, "() ((_) 7) ((_ a) '8)") + "(" + keyword + ")", "7");
            SchemeEleven x = Check.loaded(macro(keyword, "() ((_) 7) ((_ a) '8)"));
            Check.load(x, Check.times("(list" + Check.times(" 1", 40) + ")", 10));
            Check.load(x, "(" + keyword + ")");
            Check.due("run of the next text", Check.finish(x), 1);
            Check.due(keyword + " of the next text", Check.shown(x), "7");
        }
    }

    private static void ninthName() {
        Check.sentence("of a SYMBOL: a KEYWORD (the first eight SYMBOLS");
        for (String name : new String[] {"syntax-rules", "...", "_"}) {
            Check.errs(name, 1);
            Check.errs("(" + name + ")", 1);
            Check.gives("(define " + name + " 5) (set! " + name + " (+ 1 " + name + ")) " + name, "6");
            Check.gives("((lambda (" + name + ") " + name + ") 4)", "4");
        }
    }

    private static void quotes() {
        Check.sentence("(quote D)");
        refused("(quote)", "(quote 1 2)", "(quote . 1)", "(quote 1 . 2)");
        taken("(quote 1)", "(quote ())", "(quote (1 . 2))", "(quote if)");
    }

    private static void choices() {
        Check.sentence("(if E E) (if E E E)");
        refused("(if)", "(if 1)", "(if 1 2 3 4)", "(if 1 . 2)", "(if 1 2 . 3)", "(if 1 2 3 . 4)");
        taken("(if 1 2)", "(if 1 2 3)");
        Check.sentence("P: the third (without one: 012700 10)");
        Check.gives("(if #f 1)", "#u");
        Check.gives("(list (if #f 1) (if #t 1))", "(#u 1)");
    }

    private static void settings() {
        Check.sentence("(set! NAME E), the NAME a VARIABLE or GLOBAL");
        refused("(set!)", "(set! a)", "(set! a 1 2)", "(set! 1 2)", "(set! (a) 2)", "(set! () 2)", "(set! #t 2)", "(set! if 1)", "(set! let 1)");
        refused("(let-syntax ((a (syntax-rules ()))) 1 . 2)");
        Check.faults("(let-syntax ((a (syntax-rules ()))) (set! a 1))", 2, 36);
        taken("(set! a 1)", "(set! car 1)");
        Check.gives("(let ((if 1)) (set! if 2) if)", "2");
        Check.gives("(let ((let 1)) (set! let 2) let)", "2");
    }

    private static void lambdas() {
        Check.sentence("(lambda NAMES E {E}), NAMES being a list of NAMES, perhaps with a NAME behind a point, or a NAME alone");
        refused("(lambda)", "(lambda ())", "(lambda a)", "(lambda () . 1)", "(lambda () 1 . 2)");
        refused("(lambda 1 1)", "(lambda #t 1)", "(lambda (1) 1)", "(lambda (a . 1) 1)", "(lambda ((a)) 1)", "(lambda (a ()) 1)", "(lambda 'a 1 . 2)");
        taken("(lambda () 1)", "(lambda a 1)", "(lambda (a) 1)", "(lambda (a . b) 1)", "(lambda (a b . c) 1 2 3)", "(lambda (if) 1)");
        Check.gives("((lambda 'a (list quote a)) 1 2)", "(1 2)");
    }

    private static void lambdaNames() {
        Check.sentence("none twice, 20 in all at most");
        refused("(lambda (a a) 1)", "(lambda (a b a) 1)", "(lambda (a . a) 1)", "(lambda (b a . a) 1)");
        String nineteen = "a b c d e f g h i j k l m n o p q r s";
        taken("(lambda (" + nineteen + " t) t)", "(lambda (" + nineteen + " . t) t)");
        refused("(lambda (" + nineteen + " t u) 1)", "(lambda (" + nineteen + " t . u) 1)");
        refused("(lambda (" + nineteen + " s) 1)", "(lambda (" + nineteen + " . a) 1)");
        Check.gives("((lambda (" + nineteen + " t) (list a t)) 1 2 3 4 5 6 7 8 9 10 11 12 13 14 15 16 17 18 19 20)", "(1 20)");
        Check.gives("((lambda (" + nineteen + " . t) (list s t)) 1 2 3 4 5 6 7 8 9 10 11 12 13 14 15 16 17 18 19 20)", "(19 (20))");
        Check.faults(" (define (f " + nineteen + " t u) 1)", 2, 1);
        Check.loaded("(define (f " + nineteen + " t) 1)");
    }

    private static void namesOfOneSymbol() {
        Check.sentence("a NAME (the SYMBOL or ALIAS itself) as a VARIABLE or a MACRO");
        Check.gives(macro("m", "() ((_ y) (lambda (y a) (list y a)))") + "((m a) 1 2)", "(1 2)");
        behind(macro("m", "() ((_ y) (lambda (y y) 1))"), "(m a)", 2, 0);
        behind(macro("m", "() ((_) (lambda (a a) 1))"), "(m)", 2, 0);
    }

    private static void sequences() {
        Check.sentence("(begin E {E})");
        refused("(begin)", "(begin . 1)", "(begin 1 . 2)");
        taken("(begin 1)", "(begin 1 2 3)");
    }

    private static void localMacros() {
        Check.sentence("(let-syntax ((NAME RULES) ..) E {E})");
        refused("(let-syntax)", "(let-syntax ())", "(let-syntax a 1)", "(let-syntax (a) 1)", "(let-syntax (()) 1)", "(let-syntax ((a)) 1)");
        refused("(let-syntax ((1 (syntax-rules ()))) 1)", "(let-syntax ((a (syntax-rules ()) 1)) 1)", "(let-syntax ((a . (syntax-rules ()))) 1)");
        refused("(let-syntax ((a (syntax-rules ())) . b) 1)", "(let-syntax () . 1)");
        taken("(let-syntax () 1)", "(let-syntax ((a (syntax-rules ()))) 1 2)");
        Check.sentence("the MACROS are told in one SCOPE for the E alone (of two of one NAME the first counts; they don't see one another)");
        String one = "(syntax-rules () ((_) 1))";
        Check.gives("(let-syntax ((a " + one + ") (a (syntax-rules () ((_) 2)))) (a))", "1");
        Check.gives("(let-syntax ((a " + one + ") (b (syntax-rules () ((_) 2))) (b (syntax-rules () ((_) 3)))) (list (a) (b)))", "(1 2)");
        Check.faults("(let-syntax ((a " + one + ") (a 3)) (a))", 3, 46);
        Check.errs("(let-syntax ((a " + one + ") (b (syntax-rules () ((_) (a))))) (b))", 1);
        Check.errs("(let-syntax ((b (syntax-rules () ((_) (a)))) (a " + one + ")) (b))", 1);
        Check.errs("(let-syntax ((b (syntax-rules () ((_) (b))))) (b))", 1);
        Check.errs("(begin (let-syntax ((a " + one + ")) (a)) (a))", 1);
        Check.faults("(let-syntax ((a " + one + ")) a)", 2, 44);
    }

    private static void definitions() {
        Check.sentence("(define NAME E), (define (NAME . NAMES) E {E}): (define NAME (lambda NAMES E {E}))");
        String[] wrong = {
            "(define)", "(define a)", "(define a 1 2)", "(define a . 1)", "(define a 1 . 2)", "(define 1 2)", "(define () 1)", "(define #t 1)",
            "(define (a))", "(define (1) 1)", "(define ((a)) 1)", "(define (a) . 1)", "(define (a) 1 . 2)", "(define (a b b) 1)", "(define (a . 1) 1)", "(define (a 1) 1)",
        };
        for (String form : wrong) {
            Check.faults("1 " + form, 2, 2);
        }
        Check.gives("(define (f . r) r) (f)", "()");
        Check.gives("(define (f a . r) 1 r) (f 1 2)", "(2)");
        Check.gives("(define (f f) f) (f 5)", "5");
        Check.sentence("FORMS of a TEXT alone (also what a MACRO's use there gives)");
        refused("(begin (define a 1) . 1)", "(if (define a 1))");
        for (String form : new String[] {"(define a 1)", "(define (a) 1)", "(define-syntax a (syntax-rules ()))"}) {
            Check.faults("(begin " + form + ")", 2, 7);
            Check.faults("(car " + form + ")", 2, 5);
            Check.faults("(lambda () " + form + ")", 2, 11);
            Check.faults("(let-syntax () " + form + ")", 2, 15);
            Check.faults("(define b " + form + ")", 2, 10);
        }
        Check.gives(macro("d", "() ((_ n v) (define n v))") + macro("e", "() ((_ n v) (d n v))") + "(e q 5) q", "5");
        behind(macro("d", "() ((_ n v) (define n v))"), "(car (d q 5))", 2, 5);
    }

    private static void definedNames() {
        Check.sentence("of an ALIAS the SYMBOL that it is at last; a NAME that means a KEYWORD or MACRO isn't such");
        Check.gives(macro("d", "() ((_ v) (define hidden v))") + macro("e", "() ((_ v) (d v))") + "(e 5) hidden", "5");
        for (String keyword : KEYWORDS) {
            Check.faults(" (define " + keyword + " 1)", 2, 1);
            Check.faults(" (define (" + keyword + ") 1)", 2, 1);
        }
        for (String name : new String[] {"let", "cond", "or"}) {
            Check.faults(" (define " + name + " 1)", 2, 1);
            Check.faults(" (define (" + name + ") 1)", 2, 1);
        }
        behind(macro("d", "() ((_ v) (define if v))"), "(d 5)", 2, 0);
        behind(macro("m", "() ((_) 1)"), "(define m 5)", 2, 0);
    }

    private static void macroDefinitions() {
        Check.sentence("And (define-syntax NAME RULES), the NAME a SYMBOL, itself and RULES without ALIASES: it gives the NAME");
        String[] wrong = {
            "(define-syntax)", "(define-syntax a)", "(define-syntax a (syntax-rules ()) 1)", "(define-syntax 1 (syntax-rules ()))",
            "(define-syntax (a) (syntax-rules ()))", "(define-syntax a . 1)", "(define-syntax () (syntax-rules ()))",
        };
        for (String form : wrong) {
            Check.faults("1 " + form, 2, 2);
        }
        Check.gives("(define-syntax zz (syntax-rules ()))", "zz");
        Check.gives(macro("d", "() ((_ n r) (define-syntax n r))") + "(d q (syntax-rules () ((_) 5))) (q)", "5");
        behind(macro("d", "() ((_ r) (define-syntax n r))"), "(d (syntax-rules ()))", 2, 0);
        behind(macro("d", "() ((_ n) (define-syntax n (syntax-rules ())))"), "(d q)", 2, 0);
        behind(macro("d", "() ((_ n r) (define-syntax n (r () ((_) 1))))"), "(d q syntax-rules)", 2, 0);
    }

    private static void operands() {
        Check.sentence("a CALL has at most 40 operands");
        taken("(list" + Check.times(" 1", 39) + ")", "(list" + Check.times(" 1", 40) + ")", "(list)");
        refused("(list" + Check.times(" 1", 41) + ")", "(list" + Check.times(" 1", 90) + ")");
        Check.gives("(list" + Check.times(" 1", 40) + ")", "(" + Check.times("1 ", 39) + "1)");
        Check.gives("(begin" + Check.times(" 1", 41) + ")", "1");
    }

    private static void improper() {
        Check.sentence("lists, also USES, end with ()");
        refused("(car . 1)", "(car 1 . 2)", "(1 . 2)", "(let . 1)", "(and 1 . 2)", "(let ((a 1)) a . b)", "(cond . a)");
        Check.loaded("(car . (1))");
        Check.gives("(list 1 . (2 3))", "(1 2 3)");
        Check.gives("(and . (1 2))", "2");
    }

    private static void nothingElse() {
        Check.sentence("FAULT 2 SYNTAX (at the DATUM) if it is none of these");
        refused("()", "let", "if");
        Check.faults("(car (()))", 2, 6);
        Check.faults("(car (() 1))", 2, 6);
        taken("1", "#t", "#f", "a", "(1)", "((1))", "(#t)");
    }

    /** Rules that are none: of define-syntax and of let-syntax. */
    private static void noRules(String... all) {
        for (String rules : all) {
            Check.faults("(define-syntax m  " + rules + ")", 3, 18);
            Check.faults("(let-syntax ((m  " + rules + ")) (if))", 3, 17);
        }
    }

    private static void noRule(String... all) {
        for (String rule : all) {
            noRules("(syntax-rules () " + rule + ")", "(syntax-rules () ((_) 1) " + rule + ")");
        }
    }

    private static void rule(String... all) {
        for (String rule : all) {
            Check.loaded("(define-syntax m (syntax-rules () " + rule + "))");
            Check.loaded("(let-syntax ((m (syntax-rules () ((_) 1) " + rule + "))) 1)");
        }
    }

    private static void rulesShape() {
        Check.sentence("RULES: (syntax-rules (NAME ..) (P T) ..)");
        noRules("5", "m", "()", "#t", "(syntax-rules)", "(syntax-rules . a)", "(syntax-rules () . a)", "(syntax-rules 5)", "(syntax-rules a)");
        noRules("(syntax-rules (5))", "(syntax-rules ((a)))", "(syntax-rules (a . b))", "(syntax-rules (()))", "(syntax-rules (a) . 5)");
        noRule("5", "a", "()", "((_))", "((_) 1 2)", "((_) . 1)", "((_) 1 . 2)");
        Check.loaded("(define-syntax m (syntax-rules ()))");
        Check.loaded("(define-syntax m (syntax-rules (a b)))");
    }

    private static void rulesName() {
        Check.sentence("syntax-rules being a NAME of that SYMBOL at last");
        noRules("(syntax-rule ())", "(5 ())", "((syntax-rules) ())", "(lambda ())");
        Check.gives("(let ((syntax-rules 1)) (let-syntax ((m (syntax-rules () ((_) 2)))) (m)))", "2");
        Check.gives(macro("o", "() ((_) (let-syntax ((m (syntax-rules () ((_) 2)))) (m)))") + "(o)", "2");
    }

    private static void patternShape() {
        Check.sentence("P isn't a list of at least a NAME (which isn't looked at)");
        noRule("(_ 1)", "(() 1)", "(5 1)", "((5) 1)", "(((a)) 1)", "((()) 1)", "((#t a) 1)");
        rule("((_) 1)", "((m) 1)", "((a a) a)", "((... a) a)", "((if) 1)");
        Check.gives(macro("m", "() ((a a) a)") + "(m 5)", "5");
        Check.gives(macro("m", "() ((other a) (list a))") + "(m 5)", "(5)");
        Check.sentence("lists, also USES, end with ()");
        noRule("((_ . a) 1)", "((_ a . b) 1)");
    }

    private static void twins() {
        Check.sentence("NAMES but the LITERALS (those told), _ and ... are its VARIABLES, none twice");
        noRule("((_ a a) 1)", "((_ a (a)) 1)", "((_ (a . a)) 1)", "((_ a (b ... ) (a ...)) 1)", "((_ (a ...) (a ...)) 1)");
        rule("((_ _ _) 1)", "((_ a (_ _) _) a)", "((_ a b) (a a))");
        Check.loaded("(define-syntax m (syntax-rules (a) ((_ a a) 1)))");
        Check.gives(macro("m", "(a) ((_ a a) 1) ((_ b c) 2)") + "(list (m a a) (m a 1))", "(1 2)");
    }

    private static void dotsInPattern() {
        Check.sentence("... stands behind a part only as the last of its list");
        noRule("((_ ...) 1)", "((_ (...)) 1)", "((_ (... a)) 1)", "((_ a ... b) 1)", "((_ (a ... b)) 1)", "((_ (a ... . b)) 1)", "((_ (a . ...)) 1)", "((_ a ... ...) 1)");
        rule("((_ a ...) 1)", "((_ (a ...)) 1)", "((_ (a ...) b) 1)", "((_ a (b c ...)) 1)", "((_ 1 ...) 1)", "((_ _ ...) 1)", "((_ () ...) 1)");
    }

    private static void depthOfPattern() {
        Check.sentence("of depth 2 at most");
        rule("((_ (a ...) ...) 1)", "((_ ((a ...) b ...)) 1)", "((_ ((a b ...) ...)) 1)");
        noRule("((_ ((a ...) ...) ...) 1)", "((_ (((a ...) ...) ...)) 1)", "((_ ((1 ...) ...) ...) 1)");
    }

    private static void dotsInTemplate() {
        Check.sentence("... behind a part (once), if that has a VARIABLE of more depth than there is around, else not");
        rule("((_ a ...) (a ...))", "((_ a ...) ((a 1) ... a ...))", "((_ (a ...) ...) ((a ...) ...))", "((_ a b ...) (a b ... a))", "((_ a ...) (a ... . 1))");
        noRule("((_ a) (a ...))", "((_ a) (1 ...))", "((_ a) (b ...))", "((_ a) (() ...))", "((_ a ...) (1 ... a ...))", "((_ a ...) (a ... ...))");
        noRule("((_ (a ...) ...) (a ... ...))", "((_ a ...) ((b ...) a ...))", "((_ a b ...) ((a ...) b ...))");
    }

    private static void depthOfTemplate() {
        Check.sentence("no VARIABLE with more or fewer ... around than in P");
        noRule("((_ a ...) a)", "((_ a ...) (1 a))", "((_ a ...) ((a ...) ...))", "((_ (a ...) ...) (a ...))", "((_ (a ...) ...) a)", "((_ a b ...) ((a b) ...))");
        noRule("((_ (a b ...) ...) ((a b) ...))", "((_ (a b ...) ...) (((a b) ...) ...))");
        rule("((_ (a b ...) ...) ((a b ...) ...))", "((_ a) (a (a)))");
    }

    private static void dotsAlone() {
        Check.sentence("or ... as T itself, the first of a list or behind a point");
        noRule("((_) ...)", "((_ a) ...)", "((_) (...))", "((_ a) (... a))", "((_ a) (... ...))", "((_ a) (1 (... a)))", "((_ a) (1 . ...))", "((_ a ...) (a . ...))", "((_ a ...) (a ... . ...))");
    }

    private static void dotsAtLast() {
        Check.sentence("(... and _ are NAMES of these SYMBOLS at last, LITERALS or not.)");
        noRules("(syntax-rules (...) ((_ ...) 1))", "(syntax-rules (...) ((_ a) (a ...)))", "(syntax-rules (... a) ((_ (... b)) 1))");
        Check.gives("(let-syntax ((m (syntax-rules (... _) ((_ a ...) '(a ...))))) (m 1 2))", "(1 2)");
        Check.gives("(let-syntax ((m (syntax-rules (_) ((_ _) 1)))) (m 5))", "1");
        // both come as aliases here
        Check.gives(macro("o", "() ((_ n) (let-syntax ((i (syntax-rules () ((_ _ n) 'n)))) (i 1 2)))") + "(o z)", "2");
        Check.gives(macro("o", "() ((_ d) (let-syntax ((i (syntax-rules () ((_ a d) (list a d))))) (i 1 2)))") + "(o ...)", "(1 2)");
    }

    private static void literals() {
        Check.sentence("a LITERAL: a NAME that means, there, what the LITERAL means where the macro was told");
        String m = macro("m", "(x if let) ((_ x) 1) ((_ if) 2) ((_ let) 3) ((_ y) 0)");
        Check.gives(m + "(list (m x) (m if) (m let) (m y) (m 5) (m (x)) (m ()))", "(1 2 3 0 0 0 0)");
        Check.gives(m + "(let ((x 1)) (m x))", "0");
        Check.gives(m + "(let ((if 1)) (m if))", "0");
        Check.gives(m + "(let-syntax ((let (syntax-rules ()))) (m let))", "0");
        Check.gives(m + "(define x 1) (m x)", "1");
        Check.gives(m + macro("x", "() ((_) 1)") + "(m x)", "1");
        Check.gives(m + macro("o", "() ((_) (m x))") + "(let ((x 1)) (o))", "1");
        Check.gives("(let ((x 1)) (let-syntax ((m (syntax-rules (x) ((_ x) 1) ((_ y) 0)))) (list (m x) (let ((x 2)) (m x)))))", "(1 0)");
    }

    private static void listsOfParts() {
        Check.sentence("X ...: a list, each of which FITS X; a PAIR: a PAIR, both parts");
        String m = macro("m", "() ((_ (a ...)) '(list a ...)) ((_ b) 'no)");
        Check.gives(m + "(list (m ()) (m (1)) (m (1 2)) (m 1) (m (1 . 2)) (m (1 2 . 3)))", "((list) (list 1) (list 1 2) no no no)");
        String n = macro("n", "() ((_ (1 a) ...) '(a ...)) ((_ b ...) 'no)");
        Check.gives(n + "(list (n) (n (1 2)) (n (1 2) (1 3)) (n (1 2) (2 3)) (n (1 2) 3) (n (1)) (n (1 2 3)))", "(() (2) (2 3) no no no no)");
        String p = macro("p", "() ((_ (a . b)) '(a b)) ((_ c) 'no)");
        Check.gives(p + "(list (p (1)) (p (1 . 2)) (p (1 2)) (p ()) (p 1))", "((1 ()) (1 2) (1 (2)) no no)");
    }

    private static void constants() {
        Check.sentence("(), a NUMBER, #t, #f: such");
        String m = macro("m", "() ((_ ()) 'nil) ((_ -1) 'minus) ((_ 1) 'one) ((_ #t) 'true) ((_ #f) 'false) ((_ _) 'no)");
        Check.gives(m + "(list (m ()) (m -1) (m 1) (m #t) (m #f) (m 0) (m (1)) (m '()) (m a))", "(nil minus one true false no no no no)");
    }

    private static void noRuleFits() {
        Check.sentence("Without one: FAULT 3, at the DATUM");
        behind(macro("m", "()"), " (m)", 3, 1);
        behind(macro("m", "() ((_ a) a)"), "(car  (m))", 3, 6);
        behind(macro("m", "() ((_ a) a)"), "(m 1 2)", 3, 0);
        behind(macro("m", "() ((_) 1)"), "(m ())", 3, 0);
        behind(macro("m", "() ((_ a) (let a))"), "  (m 1)", 3, 2);
        behind(macro("m", "() ((_ a) a)"), "  (m  (let))", 3, 6);
        Check.faults("(let)", 3, 0);
        Check.faults("(cond 1)", 3, 0);
        Check.faults("(let ((a 1)))", 3, 0);
    }

    private static void unlikeLengths() {
        Check.sentence("as many as all VARIABLES in it of more depth than around have, else FAULT 3");
        String m = macro("m", "() ((_ (a ...) (b ...)) '((a b) ...))");
        Check.gives(m + "(list (m () ()) (m (1) (2)) (m (1 2) (3 4)))", "(() ((1 2)) ((1 3) (2 4)))");
        behind(m, "(m () (1))", 3, 0);
        behind(m, "(m (1) ())", 3, 0);
        behind(m, " (m (1 2) (3))", 3, 1);
        String three = macro("h", "() ((_ (a ...) (b ...) (c ...)) '((a b c a b c) ...))");
        Check.gives(three + "(list (h () () ()) (h (1 2) (3 4) (5 6)))", "(() ((1 3 5 1 3 5) (2 4 6 2 4 6)))");
        behind(three, "(h (1) (2) ())", 3, 0);
        behind(three, "(h (1) () (3))", 3, 0);
        behind(three, "(h () (2) (3))", 3, 0);
        String inner = macro("j", "() ((_ ((a ...) (b ...) (c ...)) ...) '(((a b c a) ...) ...))");
        Check.gives(inner + "(j ((1) (2) (3)) (() () ()) ((4 5) (6 7) (8 9)))", "(((1 2 3 1)) () ((4 6 8 4) (5 7 9 5)))");
        behind(inner, "(j ((1) (2) (3)) ((4 5) (6 7) (8)))", 3, 0);
        String n = macro("n", "() ((_ (a ...) ...) '((a ...) ...))") + macro("k", "() ((_ ((a ...) ...) ((b ...) ...)) '(((a b) ...) ...))");
        Check.gives(n + "(list (n) (n ()) (n (1) () (2 3)))", "(() (()) ((1) () (2 3)))");
        Check.gives(n + "(list (k () ()) (k (()) (())) (k ((1) (2 3)) ((4) (5 6))))", "(() (()) (((1 4)) ((2 5) (3 6))))");
        behind(n, "(k ((1)) ((2) (3)))", 3, 0);
        behind(n, "(k ((1) (2 3)) ((4) (5)))", 3, 0);
        Check.gives(macro("s", "() ((_ (a b ...) ...) '((a (b ...)) ...))") + "(s (1) (2 3 4))", "((1 ()) (2 (3 4)))");
    }

    private static void aliases() {
        Check.sentence("another NAME: an ALIAS of it, one for each NAME and use");
        Check.gives(macro("m", "() ((_ e) (let ((t 1)) (list t e)))") + "(let ((t 2)) (m t))", "(1 2)");
        Check.gives(macro("m", "() ((_ e) (let ((t 1)) (list t e)))") + "(m (m 5))", "(1 (1 5))");
        Check.gives(macro("m", "() ((_) (m t)) ((_ a) (lambda (a t) (list a t)))") + "((m) 1 2)", "(1 2)");
        Check.gives(macro("m", "() ((_ f e) ((f (t) (list t e)) 5))") + "(m lambda 7)", "(5 7)");
        // the alias t of the second use is another one, though it is the first that either makes
        Check.gives(macro("n", "() ((_ f g) (g f t 0)) ((_ f x z) ((f (x t) (list x t)) 1 2))") + "(n lambda n)", "(1 2)");
        Check.sentence("In (quote D) each ALIAS is its SYMBOL at last");
        Check.gives(macro("m", "() ((_ a) '(a b (c . d) 1))") + macro("n", "() ((_) (m e))") + "(n)", "(e b (c . d) 1)");
        Check.gives(macro("m", "() ((_) (eq? 'a 'a))") + "(m)", "#t");
    }
}
