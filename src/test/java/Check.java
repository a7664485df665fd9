import java.util.Objects;

/** What the tests share: the answers that are due, and texts on the tape and from the out. */
final class Check {
    private static int wrong = 0;
    private static int checked = 0;

    private Check() {
    }

    static void due(String call, Object got, Object want) {
        checked++;
        if (!Objects.equals(got, want)) {
            wrong++;
            System.out.println(call + " answered " + got + ", due is " + want);
        }
    }

    /** Ends the program with exit code 1 if an answer was not the one that is due. */
    static void end() {
        System.out.println(checked + " answers looked at, " + wrong + " not as due");
        if (wrong != 0) {
            System.exit(1);
        }
    }

    /** Types a text, a byte for each sign, up to eight a call. */
    static int put(TripleLines x, String text) {
        int answer = x.count(3);
        for (int from = 0; from < text.length(); from += 8) {
            int to = Math.min(text.length(), from + 8);
            long bytes = 0;
            for (int i = from; i < to; i++) {
                bytes = bytes << 8 | text.charAt(i);
            }
            answer = x.type(bytes, to - from);
        }
        return answer;
    }

    static int read(TripleLines x, String text) {
        put(x, text);
        return x.read();
    }

    static String out(TripleLines x) {
        StringBuilder text = new StringBuilder();
        int length = x.count(4);
        for (int i = 0; i < length; i++) {
            text.append((char) x.at(i));
        }
        return text.toString();
    }

    static String printed(TripleLines x, int form) {
        int answer = x.print(form);
        return answer < 0 ? String.valueOf(answer) : out(x);
    }

    static String codes(TripleLines x, int t) {
        StringBuilder text = new StringBuilder();
        for (int i = 0; i < x.term(t, 2); i++) {
            text.appendCodePoint(x.code(t, i));
        }
        return text.toString();
    }

    /** Kind, sort, number of codes, letters of the tag and type of a term. */
    static String facts(TripleLines x, int t) {
        StringBuilder facts = new StringBuilder();
        for (int what = 0; what < 5; what++) {
            facts.append(what == 0 ? "" : " ").append(x.term(t, what));
        }
        return facts.toString();
    }

    static String parts(TripleLines x, int i) {
        StringBuilder parts = new StringBuilder();
        for (int which = 0; which < 4; which++) {
            parts.append(which == 0 ? "" : " ").append(x.quad(i, which));
        }
        return parts.toString();
    }
}
