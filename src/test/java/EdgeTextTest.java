/** The edges that part 3 of the document names: tokens, datums, places, and what can't be read. */
public final class EdgeTextTest {
    private static final String SIGNS = "abcdefghijklmnopqrstuvwxyz0123456789!?*+-/<=>._";

    public static void main(String[] args) {
        longest();
        everyByte();
        everyByteBetween();
        numbers();
        names();
        beginnings();
        blanks();
        rows();
        marks();
        empty();
        forms();
        places();
        placesOfQuotes();
        nextTokens();
        noTokens();
        ends();
        nested();
        formsFull();
        symbolsFull();
        staticsFull();
        order();
        numbered();
        Check.finish();
    }

    private static void reads(String text, int forms) {
        SchemeEleven x = new SchemeEleven();
        Check.due("load of " + text, Check.load(x, text), forms);
        Check.due("fault of " + text, x.fault(0), 0);
    }

    private static void longest() {
        Check.sentence("at most 2,000 bytes");
        reads(Check.times(" ", 1999) + "1", 1);
        reads("'(" + Check.times("1 ", 998) + ")1", 2);
        Check.faults(Check.times(" ", 1999) + ")", 1, 1999);
        SchemeEleven x = new SchemeEleven();
        Check.due("a new name of 13 letters at the end", Check.load(x, Check.times(" ", 1986) + "'abcdefghijklm"), 1);
        Check.due("its last letter", x.letter(x.look(5) - 1, 12), 'm');
        reads(Check.times(" ", 1995) + "16383", 1);
        reads(Check.times(" ", 1998) + "#t", 1);
        reads(Check.times(" ", 1999) + "-", 1);
        Check.faults(Check.times(" ", 1999) + "#", 1, 1999);
    }

    private static void everyByte() {
        Check.sentence("TOKENS: ( ) ' . #t #f, NUMBERS (perhaps - and 1 to 5 digits, -16384 .. 16383), NAMES");
        for (int c = 0; c < 256; c++) {
            String text = String.valueOf((char) c);
            if (c == 32 || c == 10 || c == ';') {
                reads(text, 0);
            } else if (c == '(' || c == '\'') {
                Check.faults(text, 1, 1);
            } else if (c != '.' && SIGNS.indexOf(c) >= 0) {
                reads(text, 1);
            } else {
                Check.faults(text, 1, 0);
            }
        }
    }

    private static void everyByteBetween() {
        Check.sentence("NAMES (1 to 13 of a .. z 0 .. 9 ! ? * + - / < = > . _, as many as there are");
        for (int c = 0; c < 256; c++) {
            String text = "a" + (char) c + "b";
            if (c == 32 || c == 10 || c == '\'') {
                reads(text, 2);
            } else if (c == ';' || SIGNS.indexOf(c) >= 0) {
                reads(text, 1);
            } else {
                Check.faults(text, 1, c == '(' ? 3 : 1);
            }
        }
        SchemeEleven x = new SchemeEleven();
        int symbols = x.look(5);
        Check.load(x, "'(" + SIGNS.substring(0, 13) + " " + SIGNS.substring(13, 26) + " z" + SIGNS.substring(26, 38) + " " + SIGNS.substring(38) + ")");
        Check.due("four names", x.look(5), symbols + 4);
        Check.finish(x);
        Check.due("all signs", Check.shown(x), "(abcdefghijklm nopqrstuvwxyz z0123456789!? *+-/<=>._)");
    }

    private static void numbers() {
        Check.sentence("NUMBERS (perhaps - and 1 to 5 digits, -16384 .. 16383)");
        Check.gives("16383", "16383");
        Check.gives("-16384", "-16384");
        Check.gives("00000", "0");
        Check.gives("-00000", "0");
        Check.gives("-0", "0");
        Check.gives("00009", "9");
        String[] wrong = {"16384", "-16385", "99999", "-99999", "000000", "-000000", "100000", "012345", "-1234567"};
        for (String text : wrong) {
            Check.faults("7 " + text, 1, 2);
        }
    }

    private static void names() {
        Check.sentence("NAMES (1 to 13 of");
        Check.gives("'x", "x");
        Check.gives("'abcdefghijklm", "abcdefghijklm");
        Check.faults("'abcdefghijklmn", 1, 1);
        Check.faults("'abcdefghijklmnopqrstuvwxyz", 1, 1);
        Check.gives("'+123456789012", "+123456789012");
        Check.faults("'+1234567890123", 1, 1);
        Check.gives("'............", "............");
        Check.gives("(eq? 'abcdefghijklm 'abcdefghijkl)", "#f");
    }

    private static void beginnings() {
        Check.sentence("none that is a NUMBER or a point alone, none that begins with a digit, or - and a digit");
        for (String wrong : new String[] {"1a", "0-", "9.", "1+1", "-1a", "-0-", "-9.", "-1-1", "1.5"}) {
            Check.faults("'" + wrong, 1, 1);
        }
        Check.faults(".", 1, 0);
        for (String name : new String[] {"..", "...", ".1", "-", "--", "--1", "-a1", "-.1", "+1", "a1", "*1", "_", "-_"}) {
            Check.gives("'" + name, name);
        }
    }

    private static void blanks() {
        Check.sentence("blanks 32, 10, and what is behind a ; up to a 10, between");
        reads("", 0);
        reads("  \n\n  ", 0);
        reads("1 2\n3", 3);
        reads("1;2\n3", 2);
        reads("1;2 \" ( ) ' # \u0000 \u00ff", 1);
        reads(";\n1", 1);
        reads(";;1\n;2\n", 0);
        Check.gives("'(1;)\n2)", "(1 2)");
        Check.gives("';\na", "a");
        Check.faults("1\t2", 1, 1);
        Check.faults("1\r\n2", 1, 1);
        Check.faults("1 ;2\n)", 1, 5);
    }

    private static void rows() {
        Check.sentence("(A row of the signs of NAMES is one token, or none; # and the row behind it likewise.)");
        Check.faults("12ab", 1, 0);
        Check.faults("-12.5", 1, 0);
        Check.faults("#tt", 1, 0);
        Check.faults("#t1", 1, 0);
        Check.faults("#", 1, 0);
        Check.faults("# t", 1, 0);
        Check.faults("(#)", 1, 1);
        Check.faults("##t", 1, 0);
        Check.faults("#\n", 1, 0);
        Check.faults("#T", 1, 0);
        Check.faults("a#", 1, 1);
        Check.faults("#;\n", 1, 0);
        reads("#t#f", 2);
        reads("a#t", 2);
        reads("1#f", 2);
        reads("#t'a", 2);
        reads("#f(list)", 2);
        reads("1'2(list)3", 4);
    }

    private static void marks() {
        Check.sentence("( DATUMS ), ( DATUM {DATUM} . DATUM ), ' DATUM: (quote DATUM)");
        Check.gives("'()", "()");
        Check.gives("'( )", "()");
        Check.gives("'(a . b)", "(a . b)");
        Check.gives("'(a . ())", "(a)");
        Check.gives("'(a b . (c . d))", "(a b c . d)");
        Check.gives("'(a.b)", "(a.b)");
        Check.gives("'(a . 'b)", "(a quote b)");
        Check.gives("''()", "(quote ())");
        Check.gives("'('a)", "((quote a))");
        Check.faults("'(. a)", 1, 2);
        Check.faults("'(a .)", 1, 5);
        Check.faults("'(a . b c)", 1, 8);
    }

    private static void empty() {
        Check.sentence("A TEXT is DATUMS, its FORMS, at most 40");
        reads("", 0);
        reads(Check.times("1 ", 39), 39);
        reads(Check.times("1 ", 40), 40);
        reads(Check.times("'a", 40) + " ; 41", 40);
        Check.faults(Check.times("1 ", 41), 1, 80);
    }

    private static void forms() {
        Check.sentence("The FORMS of a TEXT that was read wait, behind those that do already");
        SchemeEleven x = new SchemeEleven();
        for (int i = 1; i <= 8; i++) {
            Check.due("40 forms", Check.load(x, Check.times("1 ", 39) + i), 40 * i);
        }
        for (int i = 1; i <= 8; i++) {
            x.run(80);
            Check.due("forms that were done", x.look(7), 40 * i);
            Check.due("the last of each text", Check.shown(x), String.valueOf(i));
        }
    }

    /** Parts of a datum stand as forms of their own behind these macros. */
    private static final String PARTS = "(define-syntax r (syntax-rules () ((_ (a . b)) b) ((_ (a b . c) 1) c)))"
        + "(define-syntax f (syntax-rules () ((_ (a . b)) a)))";

    private static void part(String text, int place) {
        Check.faults(PARTS + text, 2, PARTS.length() + place);
    }

    private static void places() {
        Check.sentence("PLACE of a DATUM: its first byte (of the rest of a list that of its first part, of its end that of the )");
        part(" (if)", 1);
        part("(car  (if))", 6);
        part("(car  if)", 6);
        part("(car  ( ))", 6);
        part("(f (  if))", 6);
        part("(r (car  if))", 9);
        part("(r (car  (1 . 2) 3))", 9);
        part("(r (car   ))", 10);
        part("(r (car 1 if  ) 1)", 10);
        part("(r (car 1  ) 1)", 11);
        part("(r (car .  if))", 11);
        part("(r (car .  (if)))", 11);
        part("(r (car .  ( )))", 11);
    }

    private static void placesOfQuotes() {
        Check.sentence("of 'D of the '");
        part("(f  'a)", 4);
        String macro = "(define-syntax quote (syntax-rules ()))";
        Check.faults(macro + "  'a", 3, macro.length() + 2);
        Check.faults(macro + "(car '(a))", 3, macro.length() + 5);
    }

    /** Each token behind each beginning: it may stand there, or the fault is at it. */
    private static void nextTokens() {
        Check.sentence("the first token with which no text goes on (its first byte)");
        String[] begins = {"", "1 ", "'", "(", "('", "(1 ", "(1 (2) ", "(1 . ", "(1 . 2 ", "(1 . (2) ", "(1 . ' ", "((1 . 2) "};
        String[] tokens = {"( ", ") ", "' ", ". ", "3 ", "#t ", "a "};
        String[] good = {
            "101.111", "101.111", "101.111", "111.111", "101.111", "1111111", "1111111", "101.111", ".1.....", ".1.....", "101.111", "1111111",
        };
        for (int b = 0; b < begins.length; b++) {
            for (int t = 0; t < tokens.length; t++) {
                String text = begins[b] + tokens[t];
                boolean may = good[b].charAt(t) == '1';
                SchemeEleven x = new SchemeEleven();
                boolean ended = Check.load(x, text) != -1 || x.fault(0) != 1;
                if (!may) {
                    Check.faults(text, 1, begins[b].length());
                } else if (!ended) {
                    Check.due("the place of the fault in " + text, x.fault(1), text.length());
                }
            }
        }
    }

    private static void noTokens() {
        Check.sentence("or that is none, or the text's length");
        Check.faults("1 2 \"", 1, 4);
        Check.faults("(1 2 [", 1, 5);
        Check.faults("(1 . 2 16384", 1, 7);
        Check.faults("(1 (2 A", 1, 6);
        Check.faults("(1 \u0080", 1, 3);
    }

    private static void ends() {
        Check.sentence("or the text's length");
        String[] texts = {"(", "'", "(1", "(1 ", "(1 .", "(1 . 2", "(1 . 2 ", "((1)", "'(", "(1 ;)", "(1 ;)\n", "(if) (1", "''", "(a . '"};
        for (String text : texts) {
            Check.faults(text, 1, text.length());
        }
        Check.faults("(" + Check.times(" ", 1999), 1, 2000);
    }

    private static void nested() {
        Check.sentence("also the ( or ' that is within 40 of these that aren't ended");
        reads("'" + Check.times("(", 39) + Check.times(")", 39), 1);
        Check.faults("'" + Check.times("(", 40), 1, 40);
        Check.faults(Check.times("(", 41), 1, 40);
        Check.faults(Check.times("(", 40), 1, 40);
        reads(Check.times("'", 40) + "a", 1);
        Check.faults(Check.times("'", 41) + "a", 1, 40);
        reads(Check.times("'(", 20) + Check.times(")", 20), 1);
        Check.faults(Check.times("'(", 20) + "'", 1, 40);
        Check.faults(Check.times("'(", 20) + "(", 1, 40);
        reads(Check.times("'(", 20) + " a b 1 . c" + Check.times(")", 20), 1);
        reads("'" + Check.times("(", 38) + Check.times("'a ()", 50) + Check.times(")", 38), 1);
        Check.faults("'" + Check.times("(", 37) + "'() '(1) ''(", 1, 49);
        Check.faults("'(1 . " + Check.times("(", 39), 1, 5 + 39);
    }

    private static void formsFull() {
        Check.sentence("the 41st FORM");
        for (String one : new String[] {"1", "(1)", "'1", "a", "#t"}) {
            Check.faults(Check.times("1 ", 40) + " " + one, 1, 81);
        }
        Check.faults(Check.times("(list)", 40) + "(", 1, 240);
        reads(Check.times("(list 1 2)", 40), 40);
    }

    private static String names(int from, int to) {
        StringBuilder all = new StringBuilder();
        for (int i = from; i < to; i++) {
            all.append(" n").append(i);
        }
        return all.toString();
    }

    private static void symbolsFull() {
        Check.sentence("a NAME that would be the 301st SYMBOL");
        SchemeEleven x = new SchemeEleven();
        Check.load(x, "'(" + names(0, 150) + ")");
        int last = 300 - x.look(5) + 150;
        Check.faults(x, "'(" + names(150, last) + " more)", 1, 2 + names(150, last).length() + 1);
        Check.due("just 300", Check.load(x, "'(" + names(150, last) + ")"), 2);
        Check.due("symbols", x.look(5), 300);
        Check.due("the last one's first letter", x.letter(299, 0), 'n');
        Check.faults(x, " more", 1, 1);
        Check.faults(x, "'(n1 n2 . more)", 1, 10);
        Check.due("names that are there", Check.load(x, "'(n1 n2 car)"), 3);
    }

    /** 1,194 statics of six bytes fit below 8192. */
    private static void staticsFull() {
        Check.sentence("(FAULT 4, at it, one that may stand there, but for which there is no room among the STATICS.)");
        SchemeEleven x = new SchemeEleven();
        int free = (8192 - 1024) / 6 - x.look(5);
        Check.load(x, "'(" + Check.times("1 ", 900) + ")");
        Check.load(x, "'(" + Check.times("1 ", free - 901) + ")");
        Check.due("room for one", x.look(1), 1024 + 6 * 1193);
        Check.faults(x, "'one 'two", 4, 6);
        Check.due("one name", Check.load(x, "'one"), 3);
        Check.due("no room", x.look(1), 1024 + 6 * 1194);
        Check.faults(x, " two", 4, 1);
        Check.faults(x, "(car . car two)", 1, 11);
        Check.faults(x, Check.times("1 ", 40) + "two", 1, 80);
        Check.faults(x, "(two )) \"", 4, 1);
        Check.due("names that are there", Check.load(x, "one car"), 5);
        Check.sentence("no room for a PAIR of a constant (at the quote)");
        Check.faults(x, "(car  '(1))", 4, 6);
        Check.faults(x, "(car  (quote (1)))", 4, 6);
        Check.due("constants without pairs", Check.load(x, "'one '5 '()"), 8);
    }

    private static void order() {
        Check.sentence("FAULT 1 READ: the first token with which no text goes on");
        Check.faults("1 ) \" (", 1, 2);
        Check.faults("(1 . 2 3 \" ", 1, 7);
        Check.faults("\" )", 1, 0);
        Check.sentence("A TEXT with a FAULT changes nothing (its SYMBOLS are none)");
        SchemeEleven x = new SchemeEleven();
        int symbols = x.look(5);
        Check.faults(x, "(one two three) )", 1, 16);
        Check.faults(x, "'(one two) (if)", 2, 11);
        Check.due("no letter", x.letter(symbols, 0), -1);
        Check.load(x, "'four");
        Check.due("the first new symbol", x.letter(symbols, 0), 'f');
    }

    private static void numbered() {
        Check.sentence("SYMBOLS are numbered as they are first read");
        SchemeEleven x = new SchemeEleven();
        int first = x.look(5);
        Check.due("55 at first", first, 55);
        Check.load(x, "'zz ''(yy . zz) (car xx yy)");
        Check.due("symbols", x.look(5), first + 3);
        for (int i = 0; i < 3; i++) {
            Check.due("letter of " + i, x.letter(first + i, 0), "zyx".charAt(i));
            int place = 1024 + 6 * (first + i);
            Check.due("its static", x.word(place), 6 + 16 * 3);
            Check.due("its value", x.word(place + 2), 0);
            Check.due("its number", x.word(place + 4), first + i);
        }
    }
}
