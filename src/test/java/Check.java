/** What all tests share: short ways to use the class, and the count of wrong answers. */
final class Check {
    private static int wrong = 0;
    private static int asked = 0;
    private static int sentences = 0;
    private static String sentence = "";

    private Check() {
    }

    private static String few(String text) {
        return text.length() > 200 ? text.substring(0, 200) + " .." : text;
    }

    /** The words of the document that the answers behind this are about; they are told with a wrong one. */
    static void sentence(String words) {
        sentences++;
        sentence = "\n    \"" + words + "\"";
    }

    static void due(String what, long got, long want) {
        asked++;
        if (got != want) {
            wrong++;
            System.out.println(what + " answered " + got + ", due is " + want + sentence);
        }
    }

    static void due(String what, boolean got, boolean want) {
        due(what, got ? 1 : 0, want ? 1 : 0);
    }

    static void due(String what, String got, String want) {
        asked++;
        if (!got.equals(want)) {
            wrong++;
            System.out.println(what + " answered \"" + got + "\", due is \"" + want + "\"" + sentence);
        }
    }

    static void finish() {
        String told = sentences == 0 ? "" : " to " + sentences + " sentences";
        System.out.println(asked + " answers" + told + ", " + wrong + " not as due");
        if (wrong != 0) {
            System.exit(1);
        }
    }

    static String times(String part, int n) {
        StringBuilder all = new StringBuilder();
        for (int i = 0; i < n; i++) {
            all.append(part);
        }
        return all.toString();
    }

    /** The text alone comes to the tape. */
    static void tape(SchemeEleven x, String text) {
        x.end(0);
        for (int at = 0; at < text.length(); at += 20) {
            int[] five = new int[5];
            for (int i = 0; i < 20; i++) {
                int letter = at + i < text.length() ? text.charAt(at + i) & 255 : 32;
                five[i / 4] = five[i / 4] << 8 | letter;
            }
            x.feed(five[0], five[1], five[2], five[3], five[4]);
        }
        x.end(text.length());
    }

    static int load(SchemeEleven x, String text) {
        tape(x, text);
        return x.load();
    }

    /** A new object that has read the text. */
    static SchemeEleven loaded(String text) {
        SchemeEleven x = new SchemeEleven();
        int waits = load(x, text);
        due("fault of " + few(text) + " at " + x.fault(1), x.fault(0), 0);
        due("forms of " + few(text), waits, x.look(0));
        return x;
    }

    /** To the end of all forms, or an error; what the last run() answered. */
    static int finish(SchemeEleven x) {
        int answer = x.run(20000);
        for (int i = 0; i < 200 && answer == 2; i++) {
            answer = x.run(20000);
        }
        return answer;
    }

    static String shown(SchemeEleven x) {
        StringBuilder all = new StringBuilder();
        for (int i = 0; x.shown(i) != SchemeEleven.NONE; i++) {
            all.append((char) x.shown(i));
        }
        return all.toString();
    }

    static String out(SchemeEleven x) {
        StringBuilder all = new StringBuilder();
        for (int i = 0; x.out(i) != SchemeEleven.NONE; i++) {
            all.append((char) x.out(i));
        }
        return all.toString();
    }

    /** What the last form of the text gives, as it is written. */
    static void gives(String text, String want) {
        SchemeEleven x = loaded(text);
        due("run of " + text, finish(x), 1);
        due(text, shown(x), want);
    }

    static void writes(String text, String want) {
        SchemeEleven x = loaded(text);
        due("run of " + text, finish(x), 1);
        due("written by " + text, out(x), want);
    }

    static void errs(String text, int error) {
        SchemeEleven x = loaded(text);
        due("run of " + text, finish(x), 3);
        due("error of " + text, x.look(6), error);
    }

    static void faults(String text, int kind, int place) {
        SchemeEleven x = new SchemeEleven();
        faults(x, text, kind, place);
    }

    static void faults(SchemeEleven x, String text, int kind, int place) {
        String few = few(text);
        int waits = x.look(0);
        int statics = x.look(1);
        int code = x.look(2);
        int symbols = x.look(5);
        int macros = x.look(9);
        due("load of " + few, load(x, text), SchemeEleven.NONE);
        due("fault of " + few, x.fault(0), kind);
        due("its place in " + few, x.fault(1), place);
        due("forms behind it", x.look(0), waits);
        due("statics behind it", x.look(1), statics);
        due("code behind it", x.look(2), code);
        due("symbols behind it", x.look(5), symbols);
        due("macros behind it", x.look(9), macros);
        due("word behind the statics", x.word(statics), 0);
        due("word behind the code", x.word(code), 0);
    }
}
