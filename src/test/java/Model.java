import java.util.ArrayList;
import java.util.List;
import java.util.regex.Matcher;
import java.util.regex.Pattern;

/**
 * The document once more, by other means: a line is one regular expression, and its fault is
 * found as the first byte after which no line can come any more. Terms and quads are texts.
 */
final class Model {
    private static final String HEX = "[0-9A-Fa-f]";
    private static final String NO_HALF = "(?![dD][89a-fA-F])";
    private static final String NO_SIGN = "(?!00(?:[01]" + HEX + "|20|22|3[cCeE]|5[cCeE]|60|7[bBcCdD]))";
    private static final String HIGH = "\\\\U00(?:0[1-9a-fA-F]|10)" + HEX + "{4}";
    private static final String ESCAPE = "\\\\(?:u|U0000)" + NO_HALF + HEX + "{4}|" + HIGH;
    private static final String NODE_ESCAPE = "\\\\(?:u|U0000)" + NO_HALF + NO_SIGN + HEX + "{4}|" + HIGH;
    private static final String NODE = "<(?:[!-~&&[^<>\"{}|^`\\\\]]|" + NODE_ESCAPE + "){1,40}>";
    private static final String WORD = "[A-Za-z0-9_-]";
    private static final String LABEL = "_:(?![-.])(?:\\.*+" + WORD + "" + nameSize() + ")++(?!" + WORD + ")";
    private static final String TAG_SIZE = "(?<!@[A-Za-z0-9-]{17})";
    private static final String TAG = "(?:[A-Za-z]" + TAG_SIZE + "){1,8}(?:-" + TAG_SIZE + "(?:[A-Za-z0-9]" + TAG_SIZE
        + "){1,8})*";
    private static final String CODES = "(?:[\\t -~&&[^\"\\\\]]|\\\\[tbnrf\"'\\\\]|" + ESCAPE + "){0,40}";
    private static final String LITERAL = "\"" + CODES + "\"(?:@" + TAG + "|\\^\\^" + NODE + ")?";
    private static final Pattern LITERAL_PARTS = Pattern.compile(
        "\"(" + CODES + ")\"(?:@(" + TAG + ")|\\^\\^(" + NODE + "))?");
    private static final String BLANKS = "[\\t\\r ]*";
    private static final String STATEMENT = "(" + NODE + "|" + LABEL + ")" + BLANKS + "(" + NODE + ")" + BLANKS
        + "(" + NODE + "|" + LABEL + "|" + LITERAL + ")" + BLANKS + "(?:(" + NODE + "|" + LABEL + ")" + BLANKS + ")?\\.";
    private static final Pattern LINE = Pattern.compile(BLANKS + "(?:" + STATEMENT + BLANKS + ")?(?:#.*)?", Pattern.DOTALL);
    private static final Pattern NAME_AND_DOTS = Pattern.compile(".*_:([A-Za-z0-9_.-]*" + WORD + ")\\.+", Pattern.DOTALL);

    /** The reading is a label's, and -1 for the others: it keeps labels of other readings apart. */
    private record Term(int kind, List<Integer> codes, String tag, int type, int reading) {
    }

    String tape = "";
    String out = "";
    int line = 0;
    int readings = 0;
    List<Term> terms = new ArrayList<>();
    List<List<Integer>> quads = new ArrayList<>();

    int line() {
        return line;
    }

    int type(long bytes, int n) {
        if (n < 1 || n > 8) {
            return -1;
        }
        StringBuilder more = new StringBuilder();
        for (int i = 0; i < n; i++) {
            more.insert(0, (char) (bytes & 255));
            bytes >>= 8;
        }
        return behindTape(more.toString());
    }

    int pass() {
        return behindTape(out);
    }

    private int behindTape(String more) {
        if (tape.length() + more.length() > 3000) {
            return -3;
        }
        tape += more;
        return tape.length();
    }

    int read() {
        String[] lines = tape.split("\n", -1);
        int place = 0;
        tape = "";
        for (int i = 0; i < lines.length; i++) {
            if (!LINE.matcher(lines[i]).matches()) {
                line = i;
                return -10 - place - faultOf(lines[i]);
            }
            place += lines[i].length() + 1;
        }
        line = lines.length;
        return take(lines);
    }

    /** Each length by itself: a repetition without a fixed end would look past the line's end. */
    private static String nameSize() {
        StringBuilder sizes = new StringBuilder();
        for (int size = 13; size <= 60; size++) {
            sizes.append("(?<!_:[A-Za-z0-9_.-]{").append(size).append("})");
        }
        return sizes.toString();
    }

    private static boolean canGoOn(String start) {
        Matcher matcher = LINE.matcher(start);
        return matcher.matches() || matcher.hitEnd();
    }

    private static int faultOf(String line) {
        int good = 0;
        while (good < line.length() && canGoOn(line.substring(0, good + 1))) {
            good++;
        }
        for (int i = 0; i < good; i++) {
            if (line.charAt(i) == '\\') {
                char letter = i + 1 < line.length() ? line.charAt(i + 1) : ' ';
                int end = i + (letter == 'u' ? 6 : letter == 'U' ? 10 : 2);
                if (end > good) {
                    return i;
                }
                i = end - 1;
            }
        }
        return faultOfDots(line, good);
    }

    /**
     * Dots behind a name can go on until it is seen that they were none of it, or too many.
     * Where a # could follow the _: there is no name, but the text of a node or literal.
     */
    private static int faultOfDots(String line, int good) {
        Matcher matcher = NAME_AND_DOTS.matcher(line.substring(0, good));
        if (!matcher.matches() || canGoOn(line.substring(0, matcher.start(1)) + "#")) {
            return good;
        }
        int end = matcher.end(1);
        if (good < line.length() && String.valueOf(line.charAt(good)).matches(WORD)) {
            return matcher.start(1) + 12;
        }
        int behindStatement = LINE.matcher(line.substring(0, end + 1)).matches() ? end + 1 : end;
        return Math.min(behindStatement, good);
    }

    private int take(String[] lines) {
        List<Term> newTerms = new ArrayList<>(terms);
        List<List<Integer>> newQuads = new ArrayList<>(quads);
        for (String text : lines) {
            Matcher matcher = LINE.matcher(text);
            if (!matcher.matches() || matcher.group(1) == null) {
                continue;
            }
            List<Integer> quad = new ArrayList<>();
            for (int group = 1; group <= 4; group++) {
                quad.add(matcher.group(group) == null ? -1 : number(newTerms, matcher.group(group)));
            }
            if (!newQuads.contains(quad)) {
                newQuads.add(quad);
            }
        }
        if (newTerms.size() > 120 || newQuads.size() > 80) {
            return -3;
        }
        int came = newQuads.size() - quads.size();
        terms = newTerms;
        quads = newQuads;
        readings++;
        return came;
    }

    private int number(List<Term> terms, String raw) {
        Term term;
        if (raw.startsWith("_:")) {
            term = new Term(1, codesOf(raw.substring(2)), "", -1, readings);
        } else if (raw.startsWith("<")) {
            term = new Term(0, codesOf(raw.substring(1, raw.length() - 1)), "", -1, -1);
        } else {
            Matcher parts = LITERAL_PARTS.matcher(raw);
            Check.due("a literal's parts", parts.matches(), true);
            int type = parts.group(3) == null ? -1 : number(terms, parts.group(3));
            String tag = parts.group(2) == null ? "" : parts.group(2).toLowerCase();
            term = new Term(2, codesOf(parts.group(1)), tag, type, -1);
        }
        if (!terms.contains(term)) {
            terms.add(term);
        }
        return terms.indexOf(term);
    }

    private static List<Integer> codesOf(String raw) {
        List<Integer> codes = new ArrayList<>();
        for (int i = 0; i < raw.length(); i++) {
            if (raw.charAt(i) != '\\') {
                codes.add((int) raw.charAt(i));
                continue;
            }
            char letter = raw.charAt(i + 1);
            int digits = letter == 'u' ? 4 : letter == 'U' ? 8 : 0;
            codes.add(digits == 0 ? (int) "\t\b\n\r\f\"'\\".charAt("tbnrf\"'\\".indexOf(letter))
                : Integer.valueOf(raw.substring(i + 2, i + 2 + digits), 16));
            i += 1 + digits;
        }
        return codes;
    }

    int term(int t, int what) {
        if (t < 0 || t >= terms.size() || what < 0 || what > 4) {
            return -1;
        }
        Term term = terms.get(t);
        int sort = term.type >= 0 ? 2 : term.tag.isEmpty() ? 0 : 1;
        int[] facts = {term.kind, sort, term.codes.size(), term.tag.length(), term.type < 0 ? -2 : term.type};
        return facts[what];
    }

    int code(int t, int i) {
        List<Integer> codes = t < 0 || t >= terms.size() ? List.of() : terms.get(t).codes;
        return i < 0 || i >= codes.size() ? -1 : codes.get(i);
    }

    int quad(int i, int which) {
        if (i < 0 || i >= quads.size() || which < 0 || which > 3) {
            return -1;
        }
        int part = quads.get(i).get(which);
        return part < 0 ? -2 : part;
    }

    int find(int s, int p, int o, int g) {
        int found = quads.indexOf(List.of(s, p, o, g));
        return found < 0 ? -2 : found;
    }

    int drop(int i) {
        if (i < 0 || i >= quads.size()) {
            return -1;
        }
        quads.remove(i);
        return quads.size();
    }

    int print(int form) {
        if (form < 0 || form > 1) {
            return -1;
        }
        List<String> lines = new ArrayList<>();
        for (List<Integer> quad : quads) {
            StringBuilder text = new StringBuilder();
            for (int t : quad) {
                text.append(t < 0 ? "" : printed(t) + " ");
            }
            lines.add(text.append(".\n").toString());
        }
        if (form == 1) {
            lines.sort(null);
        }
        String all = String.join("", lines);
        if (all.length() > 3000) {
            return -3;
        }
        out = all;
        return out.length();
    }

    private String printed(int t) {
        Term term = terms.get(t);
        if (term.kind == 1) {
            return "_:b" + t;
        }
        StringBuilder text = new StringBuilder();
        for (int code : term.codes) {
            int sign = term.kind == 2 ? "\t\b\n\r\f\"\\".indexOf(code) : -1;
            text.append(sign >= 0 ? "\\" + "tbnrf\"\\".charAt(sign) : code > 31 && code < 127 ? Character.toString(code)
                : String.format(code < 65536 ? "\\u%04X" : "\\U%08X", code));
        }
        String tag = term.tag.isEmpty() ? "" : "@" + term.tag;
        String type = term.type < 0 ? "" : "^^" + printed(term.type);
        return term.kind == 0 ? "<" + text + ">" : "\"" + text + "\"" + tag + type;
    }

    int at(int i) {
        return i < 0 || i >= out.length() ? -1 : out.charAt(i);
    }

    int count(int what) {
        int[] counts = {quads.size(), terms.size(), readings, tape.length(), out.length()};
        return what < 0 || what > 4 ? -1 : counts[what];
    }
}
