import java.util.Random;

/** All promises: runs of calls by chance, always the same ones, against the model. */
public final class RandomRunsTest {
    private static final int RUNS = 6000;
    private static final int CALLS_TO_LOOK = 100;
    private static final String[] CODES = {"a", "b", "B", "7", "'", "~", "#", ".", "_", "\\u0061", "\\u00e9", "\\U0001f600",
        "\\U00000062", "\\uFFFD", "\\u007F"};
    private static final String[] LITERAL_CODES = {"a", " ", "\t", "<", ">", "\\t", "\\b", "\\n", "\\r", "\\f", "\\\"", "\\'",
        "\\\\", "\\u0000", "\\u0022", "\\U0010FFFF", "\\u005c", "^", "@", "\\u0027"};
    private static final String[] TAGS = {"en", "EN", "en-gb", "En-GB-1", "abcdefgh", "abcdefgh-1234567", "a-b-c"};
    private static final String[] NAMES = {"a", "b", "A.b", "0", "_", "a-", "a..b", "abcdefghijkl", "x1"};
    private static final String[] BLANKS = {"", " ", " ", " ", "\t", "\r", "  "};
    private static final String[] NOISE = {"<", ">", "\"", "\\", "u", "U", "0", "a", "g", "D800", "_", ":", "_:", ".", "..", "-",
        "@", "^", "^^", "#", "\n", " ", "\t", "\r", "\u0000", "\u007f", "\u00ff", "{", "`", "'", "aaaaaaaa", "0000", "\\u0020"};

    private final Random random;
    private final Counted x = new Counted();
    private final Model model = new Model();
    private final String run;

    private RandomRunsTest(int seed) {
        random = new Random(seed);
        run = "run " + seed + ": ";
    }

    public static void main(String[] args) {
        int runs = args.length > 0 ? Integer.parseInt(args[0]) : RUNS;
        for (int seed = 0; seed < runs; seed++) {
            new RandomRunsTest(seed).run();
        }
        Check.end();
    }

    private void run() {
        int spread = 1 + random.nextInt(12);
        int noise = random.nextInt(3);
        while (x.callsLeft() > CALLS_TO_LOOK) {
            int kind = random.nextInt(10);
            if (kind < 4) {
                typeLines(spread, noise);
                answer("read() of " + model.tape.replace("\n", "(10)"), x.read(), model.read());
                answer("line()", x.line(), model.line());
            } else if (kind < 5) {
                int form = random.nextInt(20) == 0 ? random.nextInt(4) - 1 : random.nextInt(2);
                answer("print(" + form + ")", x.print(form), model.print(form));
                lookAtOut();
            } else if (kind < 6) {
                answer("pass()", x.pass(), model.pass());
                if (random.nextInt(4) > 0) {
                    answer("read() of the out", x.read(), model.read());
                }
            } else if (kind < 7) {
                int i = random.nextInt(model.quads.size() + 3) - 1;
                answer("drop(" + i + ")", x.drop(i), model.drop(i));
            } else {
                look();
            }
        }
        while (x.callsLeft() >= 8) {
            look();
            lookAtOut();
        }
    }

    private void answer(String call, int got, int want) {
        Check.due(run + call, got, want);
    }

    private void typeLines(int spread, int noise) {
        StringBuilder lines = new StringBuilder();
        int statements = random.nextInt(5);
        for (int i = 0; i < statements; i++) {
            lines.append(statement(spread)).append(random.nextInt(12) == 0 ? " # x\\\"" : "").append('\n');
        }
        for (int i = random.nextInt(noise + 1); i > 0 && random.nextBoolean(); i--) {
            int at = random.nextInt(lines.length() + 1);
            int to = random.nextBoolean() ? at : Math.min(lines.length(), at + random.nextInt(4));
            lines.replace(at, to, random.nextInt(4) == 0 ? "" : pick(NOISE));
        }
        if (random.nextInt(20) == 0) {
            lines.setLength(random.nextInt(lines.length() + 1));
        }
        String text = lines.toString();
        for (int from = 0; from < text.length() && x.callsLeft() > CALLS_TO_LOOK; from += 8) {
            int n = Math.min(8, text.length() - from);
            long bytes = random.nextLong();
            for (int i = 0; i < n; i++) {
                bytes = bytes << 8 | text.charAt(from + i);
            }
            answer("type(" + bytes + ", " + n + ")", x.type(bytes, n), model.type(bytes, n));
        }
        int n = random.nextInt(30);
        if (n > 8) {
            answer("type(0, " + n + ")", x.type(0L, n), model.type(0L, n));
        }
    }

    private String statement(int spread) {
        StringBuilder text = new StringBuilder(pick(BLANKS));
        text.append(random.nextInt(4) == 0 ? label() : node(spread)).append(pick(BLANKS));
        text.append(node(spread)).append(pick(BLANKS));
        int kind = random.nextInt(4);
        text.append(kind == 0 ? label() : kind == 1 ? node(spread) : literal(spread)).append(pick(BLANKS));
        if (random.nextInt(3) == 0) {
            text.append(random.nextInt(3) == 0 ? label() : node(spread)).append(pick(BLANKS));
        }
        return text.append('.').append(pick(BLANKS)).toString();
    }

    private String pick(String[] from) {
        return from[random.nextInt(from.length)];
    }

    private String label() {
        return "_:" + pick(NAMES) + (random.nextInt(40) == 0 ? pick(NAMES) : "") + (random.nextInt(30) == 0 ? "" : " ");
    }

    private String node(int spread) {
        return "<" + codes(spread, CODES, 1) + ">";
    }

    private String literal(int spread) {
        String text = "\"" + codes(spread, random.nextBoolean() ? CODES : LITERAL_CODES, 0) + "\"";
        int kind = random.nextInt(3);
        return kind == 0 ? text : kind == 1 ? text + "@" + pick(TAGS) + (random.nextInt(40) == 0 ? pick(TAGS) : "")
            : text + "^^" + node(spread);
    }

    private String codes(int spread, String[] from, int least) {
        StringBuilder text = new StringBuilder();
        int length = random.nextInt(60) == 0 ? 38 + random.nextInt(4) : least + random.nextInt(3);
        for (int i = 0; i < length; i++) {
            text.append(from[random.nextInt(Math.min(from.length, spread + 1))]);
        }
        return text.toString();
    }

    private void look() {
        int t = random.nextInt(model.terms.size() + 2) - 1;
        int what = random.nextInt(7) - 1;
        answer("term(" + t + ", " + what + ")", x.term(t, what), model.term(t, what));
        int place = random.nextInt(Math.max(0, model.term(t, 2)) + 2) - 1;
        answer("code(" + t + ", " + place + ")", x.code(t, place), model.code(t, place));
        int i = random.nextInt(model.quads.size() + 2) - 1;
        answer("quad(" + i + ", " + what + ")", x.quad(i, what), model.quad(i, what));
        answer("count(" + what + ")", x.count(what), model.count(what));
        find(random.nextInt(model.quads.size() + 1));
    }

    /** Looks for a quad that is there (none behind the last), now and then with one part changed. */
    private void find(int i) {
        int[] parts = new int[4];
        for (int which = 0; which < 4; which++) {
            parts[which] = Math.max(-1, model.quad(i, which));
        }
        if (random.nextInt(3) == 0) {
            parts[random.nextInt(4)] = random.nextInt(model.terms.size() + 4) - 3;
        }
        String call = "find(" + parts[0] + ", " + parts[1] + ", " + parts[2] + ", " + parts[3] + ")";
        answer(call, x.find(parts[0], parts[1], parts[2], parts[3]), model.find(parts[0], parts[1], parts[2], parts[3]));
    }

    private void lookAtOut() {
        for (int n = 0; n < 3; n++) {
            int i = random.nextInt(model.out.length() + 3) - 1;
            answer("at(" + i + ")", x.at(i), model.at(i));
        }
    }
}
