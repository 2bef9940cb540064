/** The edges that part 4 of the document names as full (FAULT 4), and which fault of a text counts. */
public final class EdgeFullTest {
    public static void main(String[] args) {
        uses();
        usesOfEachText();
        madeOfEachSort();
        madeTogether();
        madeAheadOfLengths();
        largeDatum();
        deepDatum();
        deepDatumOfLaterParts();
        withinSixty();
        usesAreNotWithin();
        definedWithin();
        namesOfLambdas();
        namesOfLetSyntax();
        namesOfEachText();
        macros();
        parts();
        allParts();
        manyDatums();
        partsOfEachSort();
        toldAnew();
        constantPairs();
        codeWords();
        manyLambdas();
        codeWordsOfUses();
        firstFault();
        formsInOrder();
        asWordsCome();
        nothingChanges();
        Check.finish();
    }

    private static String macro(String name, String rules) {
        return "(define-syntax " + name + " (syntax-rules " + rules + ")) ";
    }

    private static void behind(String macros, String text, int kind, int place) {
        Check.faults(macros + text, kind, macros.length() + place);
    }

    private static final String TEN = macro("b", "() ((_ x) (begin x x x x x x x x x x))") + macro("u", "() ((_) 1)");

    /** 111 uses: one of ten of ten. */
    private static final String MANY = "(b (b (u)))";

    private static void uses() {
        Check.sentence("FAULT 4 FULL (at the DATUM): a 1,001st USE of a TEXT");
        String uses = TEN + Check.times(MANY, 9);
        Check.loaded(uses + "(u)");
        behind(uses, "(u) (car  (u))", 4, 10);
        behind(uses, "(u) (u 1 2)", 4, 4);
        behind(uses, "(u) (let)", 4, 4);
        behind(uses, "(u) (u . 1)", 2, 4);
        behind(uses, "(u) (car) (b 1)", 4, 10);
    }

    private static void usesOfEachText() {
        Check.sentence("a 1,001st USE of a TEXT");
        SchemeEleven x = Check.loaded(TEN);
        for (int i = 1; i <= 3; i++) {
            Check.due("999 uses and one", Check.load(x, Check.times(MANY, 9) + "(u)"), 2 + 10 * i);
        }
        Check.faults(x, Check.times(MANY, 9) + "(u) (u)", 4, 103);
    }

    /** Macros and uses that have made so many parts (3,823 to 4,000), in 21 forms and four macros. */
    private static String made(int parts) {
        int rest = parts - 19 * 201;
        int odd = rest % 2 == 1 ? rest : rest - 1;
        String list = "(begin " + Check.times("1 ", 99) + ")";
        String last = "(begin " + Check.times("1 ", (odd - 3) / 2) + ")";
        String one = rest % 2 == 1 ? "(w 1)" : "(w)";
        return macro("m", "() ((_) " + list + ")") + macro("n", "() ((_) " + last + ")") + macro("w", "() ((_) 1) ((_ x) x)")
            + Check.times("(m)", 19) + "(n)" + one;
    }

    private static void madeOfEachSort() {
        Check.sentence("more than 4,000 PAIRS, ALIASES (as often as they stand), numbers, #t, #f and () of T made by USES of a TEXT");
        Check.loaded(made(3999) + "(w)");
        Check.loaded(made(4000) + "(w 1)");
        behind(made(4000), "(w)", 4, 0);
        String[] ones = {"7", "#t", "#f", "car"};
        for (String one : ones) {
            String macro = macro("o", "() ((_) " + one + ")");
            Check.loaded(macro + made(3999) + "(o)");
            behind(macro + made(4000), " (o)", 4, 1);
        }
        String nil = macro("o", "() ((_) ())");
        behind(nil + made(3999), "(o)", 2, 0);
        behind(nil + made(4000), "(o)", 4, 0);
        String pair = macro("o", "() ((_ x) (x))");
        Check.loaded(pair + made(3998) + "(o car)");
        behind(pair + made(3999), "(o car)", 4, 0);
        behind(pair + made(4000), "(o car)", 4, 0);
        String twice = macro("o", "() ((_) (car car))");
        Check.loaded(twice + made(3995) + "(o)");
        behind(twice + made(3996), "(o)", 4, 0);
        String dots = macro("o", "() ((_ x ...) (x ...))");
        Check.loaded(dots + made(3995) + "(o car 1 2 3)");
        behind(dots + made(3996), "(o car 1 2 3)", 4, 0);
        String point = macro("o", "() ((_ x y) (x . y))");
        Check.loaded(point + made(3999) + "(o car (1 2 3))");
        behind(point + made(4000), "(o car (1 2 3))", 4, 0);
    }

    private static void madeTogether() {
        Check.sentence("made by USES of a TEXT");
        SchemeEleven x = Check.loaded(made(4000));
        Check.due("as many of the next text", Check.load(x, Check.times("(m)", 19) + "(n)"), 24 + 20);
        Check.faults(x, Check.times("(m)", 19) + "(n)(w 1)(w)(w)", 4, 19 * 3 + 8);
    }

    private static void madeAheadOfLengths() {
        Check.sentence("(a PAIR ahead of its parts; lengths that are unlike ahead of the PAIRS that they would give)");
        String macros = macro("z", "() ((_ (a ...) (b ...)) ((a b) ...))") + macro("y", "() ((_ (a ...) (b ...)) (1 (a b) ...))")
            + macro("v", "() ((_ (a ...) (b ...)) (((a b) ...)))");
        behind(macros + made(4000), "(z (1) ())", 3, 0);
        behind(macros + made(4000), "(z (1) (2))", 4, 0);
        behind(macros + made(4000), "(y (1) ())", 4, 0);
        behind(macros + made(3999), "(y (1) ())", 4, 0);
        behind(macros + made(3998), "(y (1) ())", 3, 0);
        behind(macros + made(4000), "(v (1) ())", 4, 0);
        behind(macros + made(3999), "(v (1) ())", 3, 0);
    }

    /** A datum of n pairs has n + 1 other parts, so 3,999 and 4,001 are the bounds. */
    private static void largeDatum() {
        Check.sentence("a USE that gives a DATUM of more than 4,000 of all such (and NAMES; each as often as it stands in it)");
        String macros = macro("i", "() ((_ a ...) 1)") + macro("t", "() ((_ x) (i x x x))") + macro("s", "() ((_ x) (i x x x 1))")
            + macro("q", "() ((_ x) '(x x x))") + macro("g", "() ((_ x) '(x x x car))");
        for (String part : new String[] {"1 ", "a ", "()"}) {
            SchemeEleven x = Check.loaded(macros);
            Check.due("3,999 parts", Check.load(x, "(t (" + Check.times(part, 665) + "))"), 6);
            Check.faults(x, " (s (" + Check.times(part, 665) + "))", 4, 1);
            Check.faults(x, " (t (" + Check.times(part, 666) + "))", 4, 1);
            // (quote (x x x)) has three pairs, quote and two () more
            Check.faults(x, " (q (" + Check.times(part, 665) + "))", 4, 1);
        }
        SchemeEleven x = Check.loaded(macros);
        int statics = x.look(1);
        Check.due("(quote (x x x)) of 3,995 parts", Check.load(x, "(q (" + Check.times("1 ", 664) + "))") > 0, false);
        Check.due("without room for the pairs", x.fault(0), 4);
        Check.due("statics", x.look(1), statics);
    }

    private static void deepDatum() {
        Check.sentence("or with more than 100 PAIRS that are each in the first part of the one before, or of a PAIR of its list");
        String wrap = macro("w", "() ((_ () x) 1) ((_ (k . r) x) (w r (x)))");
        Check.loaded(wrap + "(w (" + Check.times("1 ", 99) + ") 5)");
        behind(wrap, "(w (" + Check.times("1 ", 100) + ") 5)", 4, 0);
        // the datum's own lists count, too
        Check.loaded(wrap + "(w (" + Check.times("1 ", 97) + ") ((5)))");
        behind(wrap, "(w (" + Check.times("1 ", 98) + ") ((5)))", 4, 0);
    }

    private static void deepDatumOfLaterParts() {
        Check.sentence("or of a PAIR of its list");
        String wrap = macro("w", "() ((_ () x) 1) ((_ (k . r) x) (w r (2 3 x)))");
        Check.loaded(wrap + "(w (" + Check.times("1 ", 99) + ") 5)");
        behind(wrap, "(w (" + Check.times("1 ", 100) + ") 5)", 4, 0);
        // in the rest of a list it isn't deeper
        String rest = macro("l", "() ((_ () x) 1) ((_ (k . r) x) (l r (2 . x)))");
        Check.loaded(rest + "(l (" + Check.times("1 ", 150) + ") ())");
    }

    private static final String[] AROUND = {
        "(begin D)", "(begin 1 D)", "(if D 1)", "(if 1 D)", "(if 1 2 D)", "(set! x D)", "(D)", "(list D)", "(list 1 D)",
        "(lambda () D)", "(lambda () 1 D)", "(let-syntax () D)", "(let-syntax () 1 D)",
    };

    private static void withinSixty() {
        Check.sentence("E within 60 others (a lambda's are within it)");
        for (String around : AROUND) {
            String down = macro("d", "() ((_ a) a) ((_ a b ...) " + around.replace("D", "(d b ...)") + ")");
            Check.loaded(down + "(d" + Check.times(" 1", 60) + ")");
            behind(down, " (d" + Check.times(" 1", 61) + ")", 4, 1);
            Check.loaded(down + "(d" + Check.times(" 1", 58) + " (list x))");
            behind(down, " (d" + Check.times(" 1", 59) + " (list x))", 4, 1 + 2 + 2 * 59 + 1 + 1);
            Check.loaded(down + "(d" + Check.times(" 1", 59) + " (quote (((1)))))");
            behind(down, " (d" + Check.times(" 1", 59) + " (lambda (x)  1))", 4, 1 + 2 + 2 * 59 + 1 + 13);
        }
    }

    private static void usesAreNotWithin() {
        Check.sentence("The result is a DATUM in the SCOPES of the use");
        String chain = macro("r", "() ((_ a) a) ((_ a b ...) (r b ...))");
        Check.loaded(chain + "(r" + Check.times(" 1", 80) + ")");
        String down = macro("d", "() ((_ a) a) ((_ a b ...) (begin (d b ...)))");
        Check.loaded(chain + down + "(d" + Check.times(" 1", 59) + " (r 1 2 3))");
    }

    private static void definedWithin() {
        Check.sentence("E within 60 others (a lambda's are within it)");
        String down = macro("d", "() ((_ a) a) ((_ a b ...) (begin (d b ...)))");
        Check.loaded(down + "(define q (d" + Check.times(" 1", 60) + "))");
        behind(down, "(define q  (d" + Check.times(" 1", 61) + "))", 4, 11);
        Check.loaded(down + "(define (q) (d" + Check.times(" 1", 59) + "))");
        behind(down, "(define (q)  (d" + Check.times(" 1", 60) + "))", 4, 13);
    }

    private static final String TWENTY = "(lambda (a b c d e f g h i j k l m n o p q r s t) 1)";
    private static final String SIXTY = macro("y", "() ((_ x) (begin " + Check.times("x ", 60) + "))");

    /** All but twenty of the 12,000 names. */
    private static final String TOLD = Check.times("(y " + TWENTY + ")", 9) + macro("z", "() ((_ x) (begin " + Check.times("x ", 59) + "))") + "(z " + TWENTY + ")";

    private static void namesOfLambdas() {
        Check.sentence("a 12,001st NAME told in SCOPES of a TEXT (at the lambda, when its words begin");
        SchemeEleven x = Check.loaded(SIXTY);
        int n = TOLD.length();
        Check.due("12,000", Check.load(x, TOLD + TWENTY) != -1, true);
        x = Check.loaded(SIXTY);
        Check.faults(x, TOLD + TWENTY + " (lambda a 1)", 4, n + TWENTY.length() + 1);
        Check.faults(x, TOLD + "(lambda (a) 1)" + "(car  " + TWENTY + ")", 4, n + 14 + 6);
        Check.faults(x, TOLD + TWENTY + "(define (f a) 1)", 4, n + TWENTY.length());
        Check.faults(x, TOLD + TWENTY + "(car (lambda (a) 1) (if))", 2, n + TWENTY.length() + 20);
        Check.faults(x, TOLD + TWENTY + "(car (lambda () (if)) (lambda (a) 1))", 2, n + TWENTY.length() + 16);
        Check.faults(x, TOLD + TWENTY + "(car (lambda (a) (if)) (lambda () (if)))", 4, n + TWENTY.length() + 5);
        Check.faults(x, TOLD + TWENTY + "(lambda () (lambda (a . b) 1))", 4, n + TWENTY.length() + 11);
        Check.due("none more", Check.load(x, TOLD + TWENTY + "(lambda () 1) (let-syntax () 1)") != -1, true);
    }

    private static void namesOfLetSyntax() {
        Check.sentence("or let-syntax, ahead of its RULES)");
        SchemeEleven x = Check.loaded(SIXTY);
        String nineteen = TWENTY.replace(" t)", ")");
        int n = TOLD.length() + nineteen.length();
        Check.faults(x, TOLD + nineteen + "(let-syntax ((a (syntax-rules ())) (b (syntax-rules ()))) 1)", 4, n);
        Check.faults(x, TOLD + nineteen + "(car  (let-syntax ((a 5) (b 6)) 1))", 4, n + 6);
        Check.faults(x, TOLD + nineteen + "(let-syntax ((a 5)) 1)", 3, n + 16);
        Check.faults(x, TOLD + nineteen + "(let-syntax ((a 5) (6 7)) 1)", 2, n);
        Check.faults(x, TOLD + nineteen + "(let-syntax ((a (syntax-rules ()))) (lambda (b) 1))", 4, n + 36);
        Check.due("the last one", Check.load(x, TOLD + nineteen + "(let-syntax ((a (syntax-rules ()))) 1)") != -1, true);
    }

    private static void namesOfEachText() {
        Check.sentence("a 12,001st NAME told in SCOPES of a TEXT");
        SchemeEleven x = Check.loaded(SIXTY);
        Check.due("12,000 names", Check.load(x, TOLD + TWENTY) != -1, true);
        Check.due("names of the next text", Check.load(x, "(lambda (a) 1) (let-syntax ((a (syntax-rules ()))) 1)") != -1, true);
    }

    private static String rulesOf(int from, int to) {
        StringBuilder all = new StringBuilder();
        for (int i = from; i < to; i++) {
            all.append("(define-syntax m").append(i).append(" (syntax-rules ())) ");
        }
        return all.toString();
    }

    private static void macros() {
        Check.sentence("a 61st macro of define-syntax");
        SchemeEleven x = new SchemeEleven();
        Check.load(x, rulesOf(0, 27));
        Check.load(x, rulesOf(27, 53));
        Check.due("59 macros", x.look(9), 59);
        String two = rulesOf(53, 55);
        Check.faults(x, two, 4, two.length() / 2);
        Check.due("as before", x.look(9), 59);
        Check.load(x, rulesOf(53, 54));
        Check.due("60 macros", x.look(9), 60);
        Check.faults(x, " " + rulesOf(54, 55), 4, 1);
        Check.faults(x, " (define-syntax more 5)", 3, 21);
        Check.due("told anew", Check.load(x, rulesOf(53, 54) + rulesOf(0, 1)) != -1, true);
        Check.due("60 macros", x.look(9), 60);
        Check.due("macros of let-syntax don't count", Check.load(x, "(let-syntax ((more (syntax-rules () ((_) 1)))) (more))") != -1, true);
    }

    /** The parts of a list that ends with () and has only such in it. */
    private static int partsOf(String datum) {
        int n = 0;
        for (String token : datum.replace("(", " ( ").replace(")", " ) ").trim().split(" +")) {
            n += token.equals(")") ? 0 : 1;
        }
        return 2 * n - 1;
    }

    private static final String[] PRELUDE = {
        "(syntax-rules () ((_ ((v e) ...) b c ...) ((lambda (v ...) b c ...) e ...))"
            + " ((_ n ((v e) ...) b c ...) ((letrec ((n (lambda (v ...) b c ...))) n) e ...)))",
        "(syntax-rules () ((_ ((v e) ...) b c ...) (let ((v 0) ...) (set! v e) ... (let () b c ...))))",
        "(syntax-rules () ((_ () b c ...) (let () b c ...)) ((_ (x y ...) b c ...) (let (x) (let* (y ...) b c ...))))",
        "(syntax-rules () ((_) #t) ((_ a) a) ((_ a b ...) (if a (and b ...) #f)))",
        "(syntax-rules () ((_) #f) ((_ a) a) ((_ a b ...) (let ((t a)) (if t t (or b ...)))))",
        "(syntax-rules (else) ((_) #f) ((_ (else a b ...)) (begin a b ...)) ((_ (a b c ...) d ...) (if a (begin b c ...) (cond d ...))))",
    };

    private static int preludeParts() {
        int sum = 0;
        for (String rules : PRELUDE) {
            sum += partsOf(rules);
        }
        return sum;
    }

    private static String rulesWith(int numbers) {
        return "(syntax-rules () ((_) (begin " + Check.times("1 ", numbers) + ")))";
    }

    /** The numbers of p are 1, those of q 2, those of o 3. */
    private static String told(String name, int numbers) {
        return "(define-syntax " + name + " " + rulesWith(numbers).replace("1", String.valueOf(1 + "pqor".indexOf(name))) + ")";
    }

    /** All macros still give what is due, whatever was told behind them. */
    private static void rulesHold(SchemeEleven x, String names) {
        for (int i = 0; i < names.length(); i++) {
            Check.load(x, "(" + names.charAt(i) + ")");
            Check.due("run of " + names.charAt(i), Check.finish(x), 1);
            Check.due("what it gives", Check.shown(x), String.valueOf(1 + "pqor".indexOf(names.charAt(i))));
        }
        Check.load(x, "(let* ((a 4) (b a)) (cond (#f 1) (else (and a (or #f (letrec ((f (lambda () b))) (list (f) a)))))))");
        Check.due("run of the prelude's", Check.finish(x), 1);
        Check.due("what they give", Check.shown(x), "(4 4)");
    }

    /** A new object in whose rules just so many parts, an even number, are free. */
    private static SchemeEleven withFree(int free) {
        SchemeEleven x = new SchemeEleven();
        fillRules(x, free);
        return x;
    }

    private static void fillRules(SchemeEleven x, int free) {
        int left = 3000 - preludeParts() - free;
        int most = 600;
        left -= partsOf(rulesWith(most));
        Check.due("many parts", Check.load(x, told("p", most)), 1);
        Check.due("an odd rest", left % 2, 1);
        Check.due("the others", Check.load(x, told("q", (left - partsOf(rulesWith(0))) / 2)), 2);
        Check.finish(x);
    }

    private static void parts() {
        Check.sentence("more than 3,000 parts of all these sorts, NAMES too, in all their RULES");
        int free = partsOf(rulesWith(0)) + 1;
        SchemeEleven x = withFree(free);
        Check.faults(x, " " + told("o", 1), 4, 1);
        Check.due("2,999 parts", Check.load(x, told("o", 0)), 1);
        Check.faults(x, told("r", 0), 4, 0);
        Check.faults(x, "(define-syntax r (syntax-rules ()))", 4, 0);
        Check.faults(x, "(define-syntax r (syntax-rule ()))", 3, 17);
        Check.due("macros of let-syntax don't count", Check.load(x, "(let-syntax ((m " + rulesWith(300) + ")) (m))"), 2);
    }

    private static void allParts() {
        Check.sentence("more than 3,000 parts of all these sorts, NAMES too, in all their RULES");
        SchemeEleven x = withFree(0);
        Check.faults(x, "(define-syntax r (syntax-rules ()))", 4, 0);
        rulesHold(x, "pq");
        Check.load(x, told("p", 599));
        rulesHold(x, "pq");
        Check.faults(x, told("p", 601), 4, 0);
        rulesHold(x, "pq");
        Check.due("all again", Check.load(x, told("p", 600)), 1);
        rulesHold(x, "pq");
        x.reset();
        fillRules(x, 0);
        Check.faults(x, told("p", 601), 4, 0);
        Check.faults(x, "(define-syntax r (syntax-rules ()))", 4, 0);
        rulesHold(x, "pq");
    }

    /** 39 signs of quote and a number are 158 datums by 40 bytes; uses make 4,000 more. */
    private static void manyDatums() {
        Check.sentence("at most 2,000 bytes");
        SchemeEleven x = new SchemeEleven();
        String list = "(begin " + Check.times("1 ", 99) + ")";
        String last = "(list " + Check.times("2 ", 28) + "(begin" + Check.times(" 3", 57) + " 4))";
        Check.load(x, macro("m", "() ((_) " + list + ")") + macro("n", "() ((_) " + last + ")") + macro("i", "() ((_ a ...) 1)"));
        Check.finish(x);
        String text = "(i " + Check.times(Check.times("'", 39) + "1", 48) + ")" + Check.times("(m)", 19) + "(n)";
        Check.due("load", Check.load(x, text), 21);
        Check.due("run", Check.finish(x), 1);
        Check.due("what the last use gives", Check.shown(x), "(" + Check.times("2 ", 28) + "4)");
    }

    private static void partsOfEachSort() {
        Check.sentence("more than 3,000 parts of all these sorts, NAMES too");
        // two free parts and those of (syntax-rules () ((_) X)) with X one part: any one of these fits just so
        int free = partsOf("(syntax-rules () ((_) x))") + 1;
        for (String one : new String[] {"x", "7", "#t", "#f", "()"}) {
            SchemeEleven x = withFree(free);
            Check.faults(x, "(define-syntax o (syntax-rules () ((_) (" + one + "))))", 4, 0);
            Check.faults(x, "(define-syntax o (syntax-rules () ((_ " + one + ") 1)))", 4, 0);
            Check.faults(x, "(define-syntax o (syntax-rules (x) ((_) " + one + ")))", 4, 0);
            Check.faults(x, "(define-syntax o (syntax-rules () ((_) (1 . " + one + "))))", 4, 0);
            Check.due("just so many", Check.load(x, "(define-syntax o (syntax-rules () ((_) " + one + ")))"), 1);
        }
    }

    private static void toldAnew() {
        Check.sentence("(what is told anew takes the place of the elder)");
        int free = partsOf(rulesWith(0)) + 1;
        SchemeEleven x = withFree(free);
        Check.load(x, told("o", 0));
        Check.faults(x, told("o", 1), 4, 0);
        Check.faults(x, told("p", 601), 4, 0);
        Check.due("the same size", Check.load(x, told("p", 600)), 2);
        Check.due("smaller", Check.load(x, told("p", 500)), 3);
        rulesHold(x, "pq");
        Check.due("so there is room", Check.load(x, told("o", 100)), 1);
        rulesHold(x, "pqo");
        Check.faults(x, told("o", 101), 4, 0);
        Check.due("in one text", Check.load(x, told("o", 1) + told("p", 599)), 2);
        rulesHold(x, "pqo");
        Check.faults(x, told("p", 601) + told("o", 0), 4, 0);
        rulesHold(x, "o");
        Check.due("let as well", Check.load(x, "(define-syntax let (syntax-rules ()))" + told("p", 620)), 2);
        Check.due("room for the words", Check.load(x, "(list (q) (o) (and 4 (or 5)))"), 3);
        Check.due("run", Check.finish(x), 1);
        Check.due("what they give", Check.shown(x), "(2 3 5)");
    }

    private static void constantPairs() {
        Check.sentence("no room for a PAIR of a constant (at the quote)");
        SchemeEleven x = new SchemeEleven();
        int free = (8192 - x.look(1)) / 6;
        Check.load(x, "'(" + Check.times("1 ", 900) + ")");
        Check.load(x, "'(" + Check.times("1 ", free - 903) + ")");
        Check.faults(x, "1 (car  '(1 2 3 4))", 4, 8);
        Check.faults(x, "1 (car  '((1) 2 (3)))", 4, 8);
        Check.faults(x, "'(1 2) '(3 4)", 4, 7);
        Check.faults(x, "(lambda ()  '(1 2 3 . 4) '(1))", 4, 25);
        Check.due("three pairs", Check.load(x, "'((1) 2)"), 3);
        Check.due("none is left", x.look(1), 1024 + 6 * 1194);
        Check.faults(x, " '(1)", 4, 1);
        Check.faults(x, "(let ((car car))  '(1))", 4, 18);
        Check.due("a name that is known", Check.load(x, "'car"), 4);
    }

    private static void fillCode(SchemeEleven x, int room) {
        String[] texts = {"(b (b (b (begin 1 1))))", "(b (b (b 1)))", "(b (b 1))", "(b 1)", "1"};
        int[] sizes = {4001, 2001, 201, 21, 3};
        int left = (32768 - x.look(2)) / 2 - room;
        for (int i = 0; i < texts.length; i++) {
            for (int j = 0; j < 10 && left >= sizes[i] + 30; j++) {
                Check.load(x, texts[i]);
                left -= sizes[i];
            }
        }
        while (left > 0) {
            boolean three = left % 5 != 0;
            Check.load(x, three ? "1" : "(begin 1 2)");
            left -= three ? 3 : 5;
        }
        Check.due("words that are left", (32768 - x.look(2)) / 2, room);
    }

    private static final String CODE_MACROS = TEN + macro("k", "() ((_ x) (if x 1 (x)))");

    private static void wordPlaces(String text, int... places) {
        for (int room = 0; room <= places.length; room++) {
            SchemeEleven x = Check.loaded(CODE_MACROS);
            fillCode(x, room);
            if (room < places.length) {
                Check.faults(x, text, 4, places[room]);
            } else {
                Check.due("with just the room " + text, Check.load(x, text) != -1, true);
                Check.due("no room is left", x.look(2), 32768);
            }
        }
    }

    private static void codeWords() {
        Check.sentence("or for a word of CODE (at the E or FORM whose word it is, of a lambda's first one at the lambda)");
        wordPlaces("  7", 2, 2, 2);
        wordPlaces(" car", 1, 1, 1, 1, 1);
        wordPlaces(" 'car", 1, 1, 1);
        wordPlaces("(if  1  2)", 5, 5, 0, 0, 0, 0, 0, 8, 8, 8, 0, 0, 0);
        wordPlaces("(begin  1  2)", 8, 8, 11, 11, 11);
        wordPlaces("(begin (if 1 2 3) 4)", 11, 11, 7, 7, 7, 7, 7, 13, 13, 7, 7, 15, 15, 18, 18, 18);
        wordPlaces("(car  1)", 1, 1, 1, 1, 0, 6, 6, 0, 0);
        wordPlaces("(car (1))", 1, 1, 1, 1, 0, 5, 5, 6, 6, 5, 5, 0, 0);
        wordPlaces("(set! car  1)", 11, 11, 0, 0, 0, 0, 0, 0, 0, 0, 0);
        wordPlaces("(define car  1)", 13, 13, 0, 0, 0, 0, 0);
        wordPlaces("(define (car)  1)", 0, 0, 0, 0, 0, 0, 0, 0, 15, 15, 15);
        wordPlaces(" (define-syntax u (syntax-rules ()))", 1, 1, 1);
        wordPlaces("(car  (lambda (b)  b))", 1, 1, 1, 1, 0, 6, 6, 0, 0, 6, 19, 19, 19);
        wordPlaces("(lambda (b)  (lambda ()  (set! b  1)))", 0, 0, 0, 0, 13, 13, 13, 13, 34, 34, 25, 25, 25, 25, 25, 25, 25);
        wordPlaces("(let-syntax ()  1  2)", 16, 16, 19, 19, 19);
    }

    /** 9,000 lambdas in one form: the words of their closes alone have no room. */
    private static void manyLambdas() {
        Check.sentence("or for a word of CODE (at the E or FORM whose word it is");
        SchemeEleven x = Check.loaded(TEN);
        String some = "(b (b (begin " + Check.times("(lambda()1)", 45) + ")))";
        int fit = (32768 - x.look(2)) / 4;
        int at = 6 + some.length() + 13 + (fit - 4500) % 45 * 11;
        Check.faults(x, "(begin" + some + some + ")", 4, at);
        // 9,001 words leave 3,263 for those of the lambdas: 815 of four words, and three
        Check.faults(x, some, 4, 13 + 815 % 45 * 11 + 9);
        Check.due("2,000 lambdas", Check.load(x, some.replace(Check.times("(lambda()1)", 45), Check.times("(lambda()1)", 20))), 3);
        Check.due("their words", x.look(2), 8192 + 2 * (18 + 6 + 2000 * 6 + 1));
    }

    private static void codeWordsOfUses() {
        Check.sentence("PLACE of what is made: the DATUM's");
        wordPlaces(" (k  car)", 5, 5, 5, 5, 1, 1, 1, 1, 1, 1, 1, 1, 5, 5, 5, 5, 1, 1);
        wordPlaces(" (u)", 1, 1, 1);
    }

    private static void firstFault() {
        Check.sentence("the first FAULT counts");
        Check.faults("(if) (begin) (let)", 2, 0);
        Check.faults("(let) (if)", 3, 0);
        Check.faults("1 (let) (if)", 3, 2);
        Check.faults("(if (let) (if))", 3, 4);
        Check.faults("(if (let) 1 2 3)", 2, 0);
        Check.faults("(define-syntax m 5) (if)", 3, 17);
        Check.faults("(define-syntax m (syntax-rules () 5)) )", 1, 38);
    }

    private static void formsInOrder() {
        Check.sentence("FORMS are taken in their order, each wholly");
        Check.faults("(car (lambda () (lambda () (if)))) (begin)", 2, 27);
        Check.gives(macro("f", "() ((_) 1)") + "(define (g) (f)) " + macro("f", "() ((_) 2)") + "(list (g) (f))", "(1 2)");
        Check.gives("(define (g) (f 1)) " + macro("f", "() ((_ a) 2)") + "(define f2 (f 5)) f2", "2");
        Check.errs("(define (g) (f 1)) " + macro("f", "() ((_ a) 2)") + "(g)", 1);
    }

    private static void asWordsCome() {
        Check.sentence("each wholly (from the left, as it is made to words)");
        Check.faults("(car (lambda () (if)) (quote))", 2, 22);
        Check.faults("((lambda () (if)) (begin))", 2, 18);
        Check.faults("(car (lambda () (lambda () (if))) (lambda () (begin)))", 2, 45);
        Check.faults("(car (lambda () (begin)) (lambda () (if)))", 2, 16);
        Check.faults("(if (begin) (if) (quote))", 2, 4);
        Check.faults("(set! a (begin))", 2, 8);
        Check.faults("(begin (list 1 (if)) (begin))", 2, 15);
    }

    private static void nothingChanges() {
        Check.sentence("A TEXT with a FAULT changes nothing (its SYMBOLS are none)");
        SchemeEleven x = Check.loaded(macro("f", "() ((_) 1)") + "(define l '(1 2)) (display l)");
        x.run(5);
        int[] before = words(x);
        String[] texts = {
            "(define new '(3 4 5)) (define (g . r) '(r)) " + macro("f", "() ((_) 2)") + macro("let", "() ((_) 2)") + "(if)",
            macro("new", "() ((_) 2)") + "(new) (new 1)", "'(a b c d e) )", "(set! l 5) (let)", macro("f", "() ((_) 2)") + "(define-syntax new 5)",
        };
        for (String text : texts) {
            Check.due("load of " + text, Check.load(x, text), -1);
            int[] behind = words(x);
            int unlike = 0;
            for (int i = 0; i < before.length; i++) {
                unlike += before[i] == behind[i] ? 0 : 1;
            }
            Check.due("what isn't as before " + text, unlike, 0);
        }
        Check.load(x, "(let ((a 5)) (list (f) a))");
        Check.due("run", Check.finish(x), 1);
        Check.due("the macros are as before", Check.shown(x), "(1 5)");
        Check.due("what was waiting is done, too", Check.out(x), "(1 2)");
    }

    private static int[] words(SchemeEleven x) {
        int[] all = new int[32768 + 9 + 11];
        for (int i = 0; i < 32768; i++) {
            all[i] = x.word(2 * i);
        }
        for (int k = 0; k <= 8; k++) {
            all[32768 + k] = x.register(k);
        }
        for (int what = 0; what <= 10; what++) {
            all[32768 + 9 + what] = x.look(what);
        }
        return all;
    }
}
