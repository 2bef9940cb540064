/** Part 3 of the document: tokens, datums, and where a text can't be read (promises 4, 5). */
public final class ReadTest {
    public static void main(String[] args) {
        datums();
        noTokens();
        wrongTokens();
        bounds();
        rooms();
        nothingChanged();
        Check.finish();
    }

    private static void datums() {
        Check.gives("'(a . b)", "(a . b)");
        Check.gives("'(a . (b . (c . ())))", "(a b c)");
        Check.gives("'(a'b)", "(a (quote b))");
        Check.gives("''a", "(quote a)");
        Check.gives("'()", "()");
        Check.gives("'(#t#f(1)2)", "(#t #f (1) 2)");
        Check.gives("'(-0 00012 -16384 16383 -00001)", "(0 12 -16384 16383 -1)");
        Check.gives("'(- -- -a + +5 .5 ... .. a.b !?*/<=>_z9)", "(- -- -a + +5 .5 ... .. a.b !?*/<=>_z9)");
        Check.gives("'abcdefghijklm", "abcdefghijklm");
        Check.gives("; a remark ( \" \n 5 ; another", "5");
        Check.gives("'(1;x)\n2)", "(1 2)");
        Check.gives("1\n2", "2");
        Check.gives("(eq? 'abc 'abc)", "#t");
    }

    private static void noTokens() {
        Check.faults("1 16384", 1, 2);
        Check.faults("-16385", 1, 0);
        Check.faults("000001", 1, 0);
        Check.faults("-123456", 1, 0);
        Check.faults("5a", 1, 0);
        Check.faults("-5a", 1, 0);
        Check.faults("1.5", 1, 0);
        Check.faults(" 'abcdefghijklmn", 1, 2);
        Check.faults("#", 1, 0);
        Check.faults("#tt", 1, 0);
        Check.faults("(#x)", 1, 1);
        Check.faults("a \"b\"", 1, 2);
        Check.faults("A", 1, 0);
        Check.faults("a\tb", 1, 1);
        Check.faults("'(a [b])", 1, 4);
        Check.faults("a\u00e4", 1, 1);
        Check.faults("a\u0000", 1, 1);
    }

    private static void wrongTokens() {
        Check.faults(")", 1, 0);
        Check.faults("1 2 )", 1, 4);
        Check.faults(".", 1, 0);
        Check.faults("(. a)", 1, 1);
        Check.faults("(a . )", 1, 5);
        Check.faults("(a . b c)", 1, 7);
        Check.faults("(a . b . c)", 1, 7);
        Check.faults("(a . . b)", 1, 5);
        Check.faults("(a ')", 1, 4);
        Check.faults("'. a", 1, 1);
        Check.faults("(a (b)", 1, 6);
        Check.faults("(a  ", 1, 4);
        Check.faults("'", 1, 1);
        Check.faults("(a . b", 1, 6);
        Check.faults("(1 ; )", 1, 6);
        Check.faults("(if) )", 1, 5);
    }

    private static String times(String part, int n) {
        StringBuilder all = new StringBuilder();
        for (int i = 0; i < n; i++) {
            all.append(part);
        }
        return all.toString();
    }

    private static void bounds() {
        Check.loaded("'" + times("(", 39) + times(")", 39));
        Check.faults("'" + times("(", 40) + times(")", 40), 1, 40);
        Check.loaded(times("'", 40) + "a");
        Check.faults(times("'", 41) + "a", 1, 40);
        Check.gives("'(" + times("'a", 12) + ")", "(" + times("(quote a) ", 12).trim() + ")");
        Check.due("40 forms", Check.load(new SchemeEleven(), times("1 ", 40)), 40);
        Check.faults(times("1 ", 40) + " 2", 1, 81);
        Check.faults(times("1 ", 40) + " (2", 1, 81);
        Check.faults(times("1 ", 40) + ")", 1, 80);
        Check.due("a text of 2,000 bytes", Check.load(new SchemeEleven(), times(" ", 1999) + "1"), 1);
        Check.faults(times(" ", 1999) + "(", 1, 2000);
    }

    private static String names(int from, int to) {
        StringBuilder all = new StringBuilder();
        for (int i = from; i < to; i++) {
            all.append(" n").append(i);
        }
        return all.toString();
    }

    private static void rooms() {
        SchemeEleven x = new SchemeEleven();
        int free = 300 - x.look(5);
        Check.due("symbols", Check.load(x, "'(" + names(0, 200) + ")"), 1);
        Check.due("all 300 of them", Check.load(x, "'(" + names(200, free) + ")"), 2);
        Check.due("300 symbols", x.look(5), 300);
        Check.faults(x, "(n1 other n2)", 1, 4);
        Check.faults(x, "'(n1 . n2 other)", 1, 10);
        Check.due("an old name", Check.load(x, "'n1"), 3);

        SchemeEleven y = new SchemeEleven();
        Check.load(y, "'(" + times("1 ", 990) + ")");
        int left = (8192 - y.look(1)) / 6;
        Check.due("constants to the end", Check.load(y, "'(" + times("1 ", left) + ")"), 2);
        Check.due("no room is left", (8192 - y.look(1)) / 6, 0);
        Check.faults(y, "(car other)", 4, 5);
        Check.faults(y, "(car . car other)", 1, 11);
        Check.faults(y, "1 '(1)", 4, 2);
        Check.due("constants without pairs", Check.load(y, "'car '5 '()"), 5);

        SchemeEleven z = new SchemeEleven();
        Check.load(z, "'(" + times("1 ", 990) + ")");
        left = (8192 - z.look(1)) / 6;
        Check.load(z, "'(" + times("1 ", left - 2) + ")");
        Check.faults(z, "'(one) '(1 2)", 4, 7);
        Check.due("one symbol and one pair", Check.load(z, "'(one)"), 3);
    }

    private static void nothingChanged() {
        SchemeEleven x = Check.loaded("(define a 1)");
        Check.faults(x, "(define b '(1 2 3)) (define (f) '(4)) (define-syntax m (syntax-rules () ((_) 1))) (if)", 2, 82);
        Check.due("b isn't known", Check.load(x, "(m) b"), 3);
        Check.due("m is a global", Check.finish(x), 3);
        Check.due("without a value", x.look(6), 1);
    }
}
