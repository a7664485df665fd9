/** The document's part 'Terms', but for its faults: each sentence that names an edge, by itself. */
public final class TermsEdgesTest {
    private static final String FORTY = "abcdefghijklmnopqrstuvwxyzABCDEFGHIJKLMN";
    private static final String NOT_IN_NODES = "<>\"{}|^`\\";

    private TermsEdgesTest() {
    }

    public static void main(String[] args) {
        codes();
        fortyCodes();
        linesEnd();
        blanks();
        linesWithoutStatement();
        comments();
        partsOfStatement();
        blanksInStatement();
        nodeBytes();
        nodeEscapes();
        nameSigns();
        nameStarts();
        nameEnds();
        nameLengths();
        literalBytes();
        literalSigns();
        tagParts();
        tagLengths();
        tagLetters();
        types();
        escapeDigits();
        numbersOfTerms();
        likeNodes();
        likeLiterals();
        likeLabels();
        likeQuads();
        Check.end();
    }

    private static String literal(String inside) {
        return "<a> <b> \"" + inside + "\" .";
    }

    private static String escape(long code) {
        return String.format("\\U%08X", code);
    }

    private static void codes() {
        Check.sentence("CODES, numbers 0 .. 1114111 but 55296 .. 57343");
        for (int code : new int[] {0, 1, 55295, 57344, 65535, 65536, 1114110, 1114111}) {
            Counted x = Check.having(literal(escape(code)));
            Check.due("code " + code, x.code(2, 0), code);
        }
        for (long code : new long[] {55296, 55297, 56320, 57342, 57343, 1114112, 1L << 31, (1L << 32) - 1, (1L << 24) + 65}) {
            Check.marked("<a> <b> \"▸" + escape(code) + "\" .");
            Check.marked("<a> <▸" + escape(code) + "> <c> .");
        }
    }

    private static void fortyCodes() {
        Check.sentence("A TEXT is a row of CODES, .. at most 40");
        Counted x = Check.having("<" + FORTY + "> <" + FORTY + "> \"" + FORTY + "\"^^<" + FORTY + "> .");
        Check.due("codes of a node", x.term(0, 2), 40);
        Check.due("codes of a literal", x.term(1, 2), 40);
        Counted y = Check.having("<a> <b> \"" + "\\U0010FFFF".repeat(39) + "\\n\" .");
        Check.due("an escape is one code, a sign too", y.term(2, 2), 40);
        Check.due("the last one", y.code(2, 39), 10);
        Counted z = Check.having(literal(""));
        Check.due("a text without codes", z.term(2, 2), 0);
    }

    private static void linesEnd() {
        Check.sentence("LINES end with a byte 10, the last one at the tape's end");
        Check.due("no byte 10", Check.having("<a><b><c>.").count(0), 1);
        Check.due("a byte 10 at the end", Check.having("<a><b><c>.\n").count(0), 1);
        Check.due("a byte 10 between", Check.having("<a><b><c>.\n<a><b><d>.").count(0), 2);
        Check.due("a comment at the end", Check.having("<a><b><c>.#").count(0), 1);
        Check.due("a byte 10 ends a comment", Check.having("#\n<a><b><c>.").count(0), 1);
        Check.marked("<a><b><c>.▸<a><b><d>.");
        Check.marked("<a><b><c>.\r▸<a><b><d>.");
        Check.marked("<a><b>▸\n<c>.");
    }

    private static void blanks() {
        Check.sentence("blanks (9, 13, 32; any number)");
        for (char sign = 0; sign < 256; sign++) {
            boolean blank = sign == 9 || sign == 13 || sign == 32;
            if (sign != '\n' && sign != '#' && sign != '<' && sign != '_') {
                Check.marked((blank ? "" : "▸") + sign);
            }
            if (sign != '\n' && sign != '#') {
                Check.marked("<a><b><c>." + (blank ? "" : "▸") + sign);
            }
            if (sign != '<') {
                Check.marked("<a>" + (blank ? "" : "▸") + sign + "<b><c>.");
            }
        }
        String many = " \t\r".repeat(245);
        Check.due("many", Check.having(many + "<a>" + many + "<b><c>" + many + "." + many).count(0), 1);
        Check.marked(" ".repeat(2999) + "▸x");
    }

    private static void linesWithoutStatement() {
        Check.sentence("perhaps a STATEMENT and blanks, perhaps #");
        for (String tape : new String[] {"", "\n", "\n\n", " ", "\r\n\t", "#", "#\n#", " #", "\n \n#\n"}) {
            Check.due("quads of " + Check.shown(tape), Check.having(tape).count(0), 0);
        }
        for (String tape : new String[] {"<a><b><c>.", " <a><b><c>. ", "<a><b><c>.#", "<a><b><c>. #", "\n<a><b><c>.\n#"}) {
            Check.due("quads of " + Check.shown(tape), Check.having(tape).count(0), 1);
        }
        Check.marked("<a><b><c>. ▸.");
        Check.marked("<a><b><c>.▸<a><b><c>.");
    }

    private static void comments() {
        Check.sentence("# and any bytes behind it");
        StringBuilder bytes = new StringBuilder("#");
        for (char sign = 0; sign < 256; sign++) {
            bytes.append(sign == '\n' ? "" : sign);
        }
        Check.due("quads", Check.having(bytes + "\n<a><b><c>." + bytes).count(0), 1);
        Check.marked("<a> ▸# <b> <c> .");
        Check.marked("<a><b><c>▸#.");
        Check.due("# in texts", Check.having("<#><#>\"#\".").count(1), 2);
    }

    private static void partsOfStatement() {
        Check.sentence("A subject is a node or label, a predicate a node, an object any, a graph a node or label");
        for (String subject : new String[] {"<a>", "_:a"}) {
            for (String object : new String[] {"<c>", "_:c", "\"c\"", "\"c\"@en", "\"c\"^^<t>"}) {
                for (String graph : new String[] {"", "<d>", "_:d"}) {
                    String tape = subject + " <b> " + object + " " + graph + " .";
                    Check.due("quads of " + tape, Check.having(tape).count(0), 1);
                }
            }
        }
        Check.marked("▸\"a\" <b> <c> .");
        Check.marked("<a> ▸_:b <c> .");
        Check.marked("<a> ▸\"b\" <c> .");
        Check.marked("<a> <b> <c> ▸\"d\" .");
        Check.marked("<a> <b> <c> <d> ▸<e> .");
        Check.marked("<a> <b> ▸.");
    }

    private static void blanksInStatement() {
        Check.sentence("blanks, also none, before each of these but the first");
        String[] parts = {"<a>", "<b>", "\"c\"", "<d>", "."};
        for (int with = 0; with < 16; with++) {
            StringBuilder tape = new StringBuilder(parts[0]);
            for (int i = 1; i < parts.length; i++) {
                tape.append((with >> (i - 1) & 1) == 0 ? "" : "\t ").append(parts[i]);
            }
            Check.due("quads of " + Check.shown(tape.toString()), Check.having(tape.toString()).count(0), 1);
        }
        Check.due("labels without blanks", Check.having("_:a<b>_:c<d>.").count(0), 1);
        Check.due("a label behind a literal", Check.having("<a><b>\"c\"_:d.").count(0), 1);
        Check.due("a label behind a tag", Check.having("<a><b>\"c\"@en_:d.").count(0), 1);
    }

    private static void nodeBytes() {
        Check.sentence("A NODE is < codes >: at least one, each a byte 33 .. 126 but < > \" { } | ^ ` \\");
        for (char sign = 0; sign < 256; sign++) {
            boolean may = sign >= 33 && sign <= 126 && NOT_IN_NODES.indexOf(sign) < 0;
            Check.marked("<" + (may ? "" : "▸") + sign + "> <b> <c> .");
            if (sign != '>') {
                Check.marked("<a> <b" + (may ? "" : "▸") + sign + "> <c> .");
                Check.marked("<a> <b> \"c\"^^<d" + (may ? "" : "▸") + sign + "> .");
            }
        }
    }

    private static void nodeEscapes() {
        Check.sentence("or an ESCAPE of a code above 32 but these");
        for (int code = 0; code <= 255; code++) {
            boolean may = code > 32 && NOT_IN_NODES.indexOf(code) < 0;
            Check.marked("<" + (may ? "" : "▸") + String.format("\\u%04x", code) + "> <b> <c> .");
            Check.marked("<a> <b> <c" + (may ? "" : "▸") + escape(code) + "> .");
        }
        Check.due("33", Check.having("<\\u0021> <b> <c> .").code(0, 0), 33);
        Check.due("127", Check.having("<\\u007F> <b> <c> .").code(0, 0), 127);
        Check.due("1114111", Check.having("<\\U0010FFFF> <b> <c> .").code(0, 0), 1114111);
    }

    private static boolean isLetter(char sign) {
        return (sign >= 'a' && sign <= 'z') || (sign >= 'A' && sign <= 'Z');
    }

    private static boolean isDigit(char sign) {
        return sign >= '0' && sign <= '9';
    }

    private static void nameSigns() {
        Check.sentence("a name: letters, digits, _ - .");
        for (char sign = 0; sign < 256; sign++) {
            boolean may = isLetter(sign) || isDigit(sign) || sign == '_' || sign == '-' || sign == '.';
            boolean after = sign == ' ' || sign == '\t' || sign == '\r' || sign == '<';
            if (!after) {
                Check.marked("_:a" + (may ? "" : "▸") + sign + "z <b> <c> .");
            }
            if (may) {
                Counted x = Check.having("_:a" + sign + "z <b> <c> .");
                Check.due("bytes of the name", x.term(0, 2), 3);
                Check.due("the one between", x.code(0, 1), (int) sign);
            }
        }
    }

    private static void nameStarts() {
        Check.sentence("the first one no - and no .");
        for (char sign = 0; sign < 256; sign++) {
            boolean may = isLetter(sign) || isDigit(sign) || sign == '_';
            Check.marked("_:" + (may ? "" : "▸") + sign + "z <b> <c> .");
            Check.marked("<a> <b> _:" + (may ? "" : "▸") + sign + "z .");
        }
    }

    private static void nameEnds() {
        Check.sentence("a . that ends it, and those before that without another sign between, are none of it");
        Counted x = Check.having("<a> <b> _:c.");
        Check.due("a . behind a name ends the statement", Check.codes(x, 2), "c");
        Check.marked("<a> <b> _:c.▸.");
        Check.marked("<a> <b> _:c.▸..");
        Check.marked("_:a▸.. <b> <c> .");
        Check.marked("<a> <b> _:c.d▸");
        Check.due("dots between", Check.codes(Check.having("<a> <b> _:c..d..e."), 2), "c..d..e");
        Check.due("a - behind dots", Check.codes(Check.having("<a> <b> _:c..-."), 2), "c..-");
        Check.due("a name that ends with -", Check.codes(Check.having("<a> <b> _:c-."), 2), "c-");
        Check.due("a name that ends with _", Check.codes(Check.having("<a> <b> <c> _:_."), 3), "_");
        Check.due("a comment behind the .", Check.codes(Check.having("<a> <b> _:c.#.d"), 2), "c");
        Check.due("a line behind the .", Check.having("<a> <b> _:c.\n<a> <b> _:d.").count(0), 2);
    }

    private static void nameLengths() {
        Check.sentence("1 to 12 of them");
        Check.due("1", Check.having("_:a <b> <c> .").term(0, 2), 1);
        Check.due("12", Check.having("_:abcdefghijkl <b> <c> .").term(0, 2), 12);
        Check.due("12 with signs", Check.having("_:a.-_.-_.-_.- <b> <c> .").term(0, 2), 12);
        Check.due("12 and the statement's .", Check.having("<a> <b> _:abcdefghijkl.").term(2, 2), 12);
        Check.marked("_:▸ <b> <c> .");
        Check.marked("_:abcdefghijkl▸m <b> <c> .");
    }

    private static void literalBytes() {
        Check.sentence("A LITERAL is \" codes \": each a byte 9, 32 .. 126 but \" and \\");
        for (char sign = 0; sign < 256; sign++) {
            boolean may = (sign == 9 || (sign >= 32 && sign <= 126)) && sign != '\\';
            if (sign != '"') {
                Check.marked("<a> <b> \"" + (may ? "" : "▸") + sign + "x\" .");
                Check.marked("<a> <b> \"x" + (may ? "" : "▸") + sign + "x\" .");
            }
        }
        Check.marked("<a> <b> \"\"▸\" .");
    }

    private static void literalSigns() {
        Check.sentence("\\ and one of t b n r f \" ' \\ for 9 8 10 13 12 and those three");
        String letters = "tbnrf\"'\\";
        int[] codes = {9, 8, 10, 13, 12, 34, 39, 92};
        for (int i = 0; i < codes.length; i++) {
            Counted x = Check.having(literal("\\" + letters.charAt(i)));
            Check.due("codes", x.term(2, 2), 1);
            Check.due("code of \\" + letters.charAt(i), x.code(2, 0), codes[i]);
        }
        for (char sign = 0; sign < 256; sign++) {
            if (letters.indexOf(sign) < 0) {
                Check.marked("<a> <b> \"▸\\" + sign + "\" .");
            }
            Check.marked("<▸\\" + sign + "> <b> <c> .");
        }
    }

    private static String tagged(String tag) {
        return "<a> <b> \"c\"@" + tag + " .";
    }

    private static void tagParts() {
        Check.sentence("a TAG: 1 to 8 letters, then any parts, each of - and 1 to 8 letters and digits");
        for (char sign = 0; sign < 256; sign++) {
            boolean after = sign == ' ' || sign == '\t' || sign == '\r' || sign == '<' || sign == '_' || sign == '.';
            boolean sound = isLetter(sign) || isDigit(sign);
            Check.marked(tagged((isLetter(sign) ? "" : "▸") + sign));
            Check.marked(tagged("a-" + (sound ? "" : "▸") + sign));
            if (!after && sign != '-') {
                Check.marked(tagged("a" + (isLetter(sign) ? "" : "▸") + sign + "x"));
                Check.marked(tagged("a-b" + (sound ? "" : "▸") + sign + "x"));
            }
        }
        for (String tag : new String[] {"a", "abcdefgh", "a-1", "a-12345678", "abcdefgh-a", "a-b-c-d-e-f-g-h", "a-1-a1-1a"}) {
            Check.due("letters of " + tag, Check.having(tagged(tag)).term(2, 3), tag.length());
        }
        Check.marked(tagged("abcdefgh▸i"));
        Check.marked(tagged("a-12345678▸9"));
    }

    private static void tagLengths() {
        Check.sentence("16 in all at most");
        for (String tag : new String[] {"abcdefgh-1234567", "a-b-c-d-e-f-g-hi", "abcd-efg-hij-klm"}) {
            Counted x = Check.having(tagged(tag));
            Check.due("letters of " + tag, x.term(2, 3), 16);
            Check.due("line", Check.printed(x, 0), "<a> <b> \"c\"@" + tag + " .\n");
        }
        Check.marked(tagged("abcdefgh-1234567▸8"));
        Check.marked(tagged("a-b-c-d-e-f-g-hi▸-j"));
    }

    private static void tagLetters() {
        Check.sentence("great letters become small");
        Counted x = Check.having(tagged("ABCXYZ-AZaz09") + "\n" + tagged("abcxyz-azaz09"));
        Check.due("quads", x.count(0), 1);
        Check.due("line", Check.printed(x, 0), "<a> <b> \"c\"@abcxyz-azaz09 .\n");
    }

    private static void types() {
        Check.sentence("or ^^ and a NODE, its TYPE");
        Counted x = Check.having("<a> <b> \"\"^^<" + FORTY + ">.");
        Check.due("the type's codes", Check.codes(x, x.term(3, 4)), FORTY);
        Check.marked("<a> <b> \"\"^^<▸>.");
        Check.marked("<a> <b> \"\"^^<" + FORTY + "▸x>.");
        Check.marked("<a> <b> \"\"^^▸_:d.");
        Check.marked("<a> <b> \"\"^^▸\"d\".");
        Check.marked("<a> <b> \"\"@en▸^^<d>.");
        Check.marked("<a> <b> \"\"^^<d>▸@en.");
        Check.marked("<a> <b> <c>▸^^<d>.");
        Check.marked("<a> <b> _:c▸@en.");
    }

    private static void escapeDigits() {
        Check.sentence("the letter u and four digits with 16, or U and eight (digits in both sizes)");
        String digits = "0123456789abcdefABCDEF";
        for (char sign = 0; sign < 256; sign++) {
            boolean may = digits.indexOf(sign) >= 0;
            String mark = may ? "" : "▸";
            Check.marked("<a> <b> \"" + mark + "\\u004" + sign + "\" .");
            Check.marked("<a> <b> \"" + mark + "\\u" + sign + "041\" .");
            Check.marked("<a> <b> \"" + mark + "\\U0000004" + sign + "\" .");
            if (may) {
                Counted x = Check.having(literal("\\u1" + sign + "2" + sign));
                Check.due("code of " + sign, x.code(2, 0), 4128 + 257 * Character.digit(sign, 16));
            }
        }
        Check.due("a fifth digit is none of it", Check.codes(Check.having(literal("\\u00411")), 2), "A1");
        Check.due("nor is a ninth", Check.codes(Check.having(literal("\\U000000411")), 2), "A1");
        Check.marked("<a> <b> \"▸\\u041\" .");
        Check.marked("<a> <b> \"▸\\U0000041\" .");
    }

    private static void numbersOfTerms() {
        Check.sentence("TERMS are numbered from 0 as they first come (a type before its literal)");
        Counted x = Check.having("_:s <p> \"o\"^^<t> <g> .\n<g> <t> <p> .");
        Check.due("the first quad", Check.parts(x, 0), "0 1 3 4");
        Check.due("the type", x.term(3, 4), 2);
        Check.due("the second quad", Check.parts(x, 1), "4 2 1 -2");
        Check.due("terms", x.count(1), 5);
        Check.due("a type that is there", Check.read(x, "<g> <p> \"o\"^^<g> ."), 1);
        Check.due("its literal", Check.facts(x, 5), "2 2 1 0 4");
    }

    private static void likeNodes() {
        Check.sentence("like ones are one: nodes of the same codes");
        Counted x = Check.having("<a> <\\u0061> <\\U00000061> .");
        Check.due("the same codes", x.count(1), 1);
        Check.read(x, "<A> <aa> <b> .");
        Check.due("other codes", x.count(1), 4);
        Check.read(x, "<a> <A> <aa> <b> .");
        Check.due("in another reading", x.count(1), 4);
        Check.read(x, "<a> <a> \"\"^^<b> .\n_:a <a> \"a\" .");
        Check.due("a type is a node; a label and a literal are none", x.count(1), 7);
    }

    private static void likeLiterals() {
        Check.sentence("literals of the same codes, tag and type");
        String[] literals = {"\"a\"", "\"\"", "\"a\"@en", "\"a\"@fr", "\"a\"@en-a", "\"a\"^^<a>", "\"a\"^^<b>", "\"b\"", "\"\"@en",
            "\"\"^^<b>", "\"aa\""};
        StringBuilder lines = new StringBuilder("<a> <a> <b> .\n");
        for (String text : literals) {
            lines.append("<a> <b> ").append(text).append(" .\n");
        }
        Counted x = Check.having(lines.toString());
        Check.due("all differ", x.count(1), 2 + literals.length);
        Check.due("all are there", Check.read(x, lines.toString()), 0);
        Check.due("in another writing", Check.read(x, "<a> <b> \"\\u0061\"@EN .\n<a> <b> \"a\"^^<\\u0062> ."), 0);
        Check.due("terms", x.count(1), 2 + literals.length);
    }

    private static void likeLabels() {
        Check.sentence("labels of the same name in the same reading");
        Counted x = Check.having("_:a <p> _:a .\n_:a <p> _:A _:a.");
        Check.due("in one reading", Check.parts(x, 0) + ", " + Check.parts(x, 1), "0 1 0 -2, 0 1 2 0");
        Check.read(x, "_:a <p> _:A .");
        Check.due("in another reading", Check.parts(x, 2), "3 1 4 -2");
        Check.read(x, "_:a <p> _:A");
        Check.read(x, "_:A <p> _:a .");
        Check.due("after a reading with a fault", Check.parts(x, 3), "5 1 6 -2");
    }

    private static void likeQuads() {
        Check.sentence("QUADS, numbered from 0 as they come, .. no two alike");
        Counted x = Check.having("<a><b><c>.\n<a><b><c><a>.\n<a><b><c>.\n<a><b><c><b>.\n<a><b><c><a>.");
        Check.due("quads", x.count(0), 3);
        Check.due("without graph", x.find(0, 1, 2, -1), 0);
        Check.due("with a graph", x.find(0, 1, 2, 0), 1);
        Check.due("with another graph", x.find(0, 1, 2, 1), 2);
        Check.due("the same in another reading", Check.read(x, "<a><b><c>."), 0);
        Check.due("labels of another reading are others", Check.read(x, "_:x<b><c>.") + Check.read(x, "_:x<b><c>."), 2);
    }
}
