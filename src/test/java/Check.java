import java.util.Objects;

/** What the tests share: the answers that are due, and texts on the tape and from the out. */
final class Check {
    private static String sentence = "";
    private static int wrong = 0;
    private static int checked = 0;

    private Check() {
    }

    /** The document's words that the answers behind this call rest on. */
    static void sentence(String words) {
        sentence = "'" + words + "': ";
    }

    static void due(String call, Object got, Object want) {
        checked++;
        if (!Objects.equals(got, want)) {
            wrong++;
            System.out.println(sentence + call + " answered " + got + ", due is " + want);
        }
    }

    /** Ends the program with exit code 1 if an answer was not the one that is due. */
    static void end() {
        System.out.println(checked + " answers looked at, " + wrong + " not as due");
        if (wrong != 0) {
            System.exit(1);
        }
    }

    /** Types a text, a byte for each sign, up to eight a call; answers what the last one answered. */
    static int put(Counted x, String text) {
        int answer = 0;
        for (int from = 0; from < text.length(); from += 8) {
            int to = Math.min(text.length(), from + 8);
            long bytes = 0;
            for (int i = from; i < to; i++) {
                bytes = bytes << 8 | text.charAt(i);
            }
            answer = x.type(bytes, to - from);
        }
        return answer;
    }

    static int read(Counted x, String text) {
        put(x, text);
        return x.read();
    }

    /** A new object that has read this text, in which there is no fault. */
    static Counted having(String text) {
        Counted x = new Counted();
        int answer = read(x, text);
        due("read of " + shown(text) + " has no fault", answer >= 0, true);
        return x;
    }

    /** Reads a text on a new object: a mark ▸ stands before the byte of the fault; without one there is none. */
    static void marked(String marked) {
        int mark = marked.indexOf('▸');
        String call = "read of " + shown(marked);
        Counted x = new Counted();
        int answer = read(x, marked.replace("▸", ""));
        if (mark < 0) {
            due(call + " has no fault", answer >= 0, true);
            due("readings after " + call, x.count(2), 1);
            return;
        }
        due(call, answer, -10 - mark);
        due("terms after " + call, x.count(1), 0);
        due("quads after " + call, x.count(0), 0);
        due("readings after " + call, x.count(2), 0);
        due("tape after " + call, x.count(3), 0);
    }

    /** The beginning of a text, in which signs that can't be seen are told as their numbers. */
    static String shown(String text) {
        StringBuilder shown = new StringBuilder();
        if (text.length() > 100) {
            return shown(text.substring(0, 100)) + ".. (" + text.length() + " bytes)";
        }
        for (char sign : text.toCharArray()) {
            boolean plain = (sign >= 32 && sign <= 126) || sign == '▸';
            shown.append(plain ? String.valueOf(sign) : "(" + (int) sign + ")");
        }
        return shown.toString();
    }

    static String out(Counted x) {
        StringBuilder text = new StringBuilder();
        int length = x.count(4);
        for (int i = 0; i < length; i++) {
            text.append((char) x.at(i));
        }
        return text.toString();
    }

    static String printed(Counted x, int form) {
        int answer = x.print(form);
        return answer < 0 ? String.valueOf(answer) : out(x);
    }

    static String codes(Counted x, int t) {
        StringBuilder text = new StringBuilder();
        int length = x.term(t, 2);
        for (int i = 0; i < length; i++) {
            int code = x.code(t, i);
            text.append(code < 0 ? "(" + code + ")" : Character.toString(code));
        }
        return text.toString();
    }

    /** Kind, sort, number of codes, letters of the tag and type of a term. */
    static String facts(Counted x, int t) {
        StringBuilder facts = new StringBuilder();
        for (int what = 0; what < 5; what++) {
            facts.append(what == 0 ? "" : " ").append(x.term(t, what));
        }
        return facts.toString();
    }

    static String parts(Counted x, int i) {
        StringBuilder parts = new StringBuilder();
        for (int which = 0; which < 4; which++) {
            parts.append(which == 0 ? "" : " ").append(x.quad(i, which));
        }
        return parts.toString();
    }

    /** How many quads, terms, readings, bytes on the tape and bytes in the out. */
    static String counts(Counted x) {
        StringBuilder counts = new StringBuilder();
        for (int what = 0; what < 5; what++) {
            counts.append(what == 0 ? "" : " ").append(x.count(what));
        }
        return counts.toString();
    }
}
