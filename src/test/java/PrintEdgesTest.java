/** Promises 11 and 12, print and at: each sentence that names an edge, by itself. */
public final class PrintEdgesTest {
    private static final int MIN = Integer.MIN_VALUE;
    private static final int MAX = Integer.MAX_VALUE;

    private PrintEdgesTest() {
    }

    public static void main(String[] args) {
        inTheirOrder();
        byTheirBytes();
        byBytesOfLikeBeginnings();
        manyByBytes();
        lineOfTerms();
        labelsByNumbers();
        literals();
        bytesAsTheyAre();
        slashesInLiterals();
        signsInLiterals();
        escapes();
        wrongForms();
        outIsFull();
        outStaysWithFull();
        outIsReplaced();
        bytesOfTheOut();
        bytesOfAnEmptyOut();
        bytesOfAFullOut();
        Check.end();
    }

    /** An object whose lines have so many bytes, 2958 to 3037: 32 lines of 92, and one more. */
    static Counted withLines(int bytes) {
        StringBuilder lines = new StringBuilder();
        for (int i = 0; i < 32; i++) {
            lines.append("<b><b>\"").append((char) ('~' - i)).append("\t".repeat(39)).append("\".\n");
        }
        int more = bytes - 32 * 92 - "<b> <b> \"\" .\n".length();
        lines.append("<b><b>\"").append("y".repeat(more % 2)).append("\t".repeat(more / 2)).append("\".\n");
        return Check.having(lines.toString());
    }

    private static String printed(String lines, int form) {
        return Check.printed(Check.having(lines), form);
    }

    private static void inTheirOrder() {
        Check.sentence("All quads are printed, in their order (form 0)");
        String lines = "<c> <b> <a> .\n<a> <b> <c> .\n<b> <b> <b> .\n";
        Check.due("three", printed(lines, 0), lines);
        Check.due("none", printed("", 0), "");
        Check.due("one", printed("<a> <b> <c> .\n", 0), "<a> <b> <c> .\n");
        Counted x = Check.having(lines);
        x.drop(1);
        Check.read(x, "<a> <b> <c> .");
        Check.due("one that came again is the last", Check.printed(x, 0), "<c> <b> <a> .\n<b> <b> <b> .\n<a> <b> <c> .\n");
    }

    private static void byTheirBytes() {
        Check.sentence("or by the bytes of their lines (1)");
        Check.due("none", printed("", 1), "");
        Check.due("one", printed("<a> <b> <c> .\n", 1), "<a> <b> <c> .\n");
        Check.due("three", printed("<c> <b> <a> .\n<a> <b> <c> .\n<b> <b> <b> .\n", 1),
            "<a> <b> <c> .\n<b> <b> <b> .\n<c> <b> <a> .\n");
        Check.due("great letters first, labels last", printed("_:a <b> <c> .\n<a> <b> <c> .\n<B> <b> <c> .\n", 1),
            "<B> <b> <c> .\n<a> <b> <c> .\n_:b0 <b> <c> .\n");
        Check.due("the escape's bytes, not its code", printed("<a> <\\u00e9> <c> .\n<a> <b> <c> .\n<a> <Z> <c> .\n", 1),
            "<a> <Z> <c> .\n<a> <\\u00E9> <c> .\n<a> <b> <c> .\n");
        Counted x = Check.having("<c> <b> <a> .\n<a> <b> <c> .\n");
        x.print(1);
        Check.due("the quads keep their numbers", Check.parts(x, 0), "0 1 2 -2");
        Check.due("and their order", Check.printed(x, 0), "<c> <b> <a> .\n<a> <b> <c> .\n");
    }

    private static void byBytesOfLikeBeginnings() {
        Check.sentence("by the bytes of their lines (1)");
        Check.due("a graph behind none", printed("<a> <b> <c> <d> .\n<a> <b> <c> .\n", 1), "<a> <b> <c> .\n<a> <b> <c> <d> .\n");
        Check.due("a longer text", printed("<ab> <b> <c> .\n<a> <b> <c> .\n<a!> <b> <c> .\n", 1),
            "<a!> <b> <c> .\n<a> <b> <c> .\n<ab> <b> <c> .\n");
        Check.due("a tag behind a blank, a type behind a tag", printed(
            "<a> <b> \"c\"^^<b> .\n<a> <b> \"c\"@en-a .\n<a> <b> \"c\"@en .\n<a> <b> \"c\" .\n", 1),
            "<a> <b> \"c\" .\n<a> <b> \"c\"@en .\n<a> <b> \"c\"@en-a .\n<a> <b> \"c\"^^<b> .\n");
        Check.due("the last byte that differs", printed("<a> <b> \"xxxxz\" .\n<a> <b> \"xxxxy\" .\n", 1),
            "<a> <b> \"xxxxy\" .\n<a> <b> \"xxxxz\" .\n");
    }

    private static void manyByBytes() {
        Check.sentence("All quads are printed .. by the bytes of their lines (1)");
        StringBuilder lines = new StringBuilder();
        for (int i = 79; i >= 0; i--) {
            lines.append("<a> <b> <").append((char) ('0' + i / 10)).append((char) ('0' + i % 10)).append("> .\n");
        }
        Counted x = Check.having(lines.toString());
        Check.due("80 lines of 15 bytes", x.print(1), 1200);
        for (int i = 0; i < 80; i++) {
            Check.due("tens of line " + i, x.at(15 * i + 9), '0' + i / 10);
            Check.due("ones of line " + i, x.at(15 * i + 10), '0' + i % 10);
        }
    }

    private static void lineOfTerms() {
        Check.sentence("Each is a line of its terms, one byte 32 behind each, a . and a byte 10");
        Check.due("without blanks", printed("<a><b>\"c\"@en<d>.", 0), "<a> <b> \"c\"@en <d> .\n");
        Check.due("with many", printed("\t <a>\r\r<b>  \"c\"^^<t> \t _:d  . # x", 0), "<a> <b> \"c\"^^<t> _:b4 .\n");
        Check.due("without graph", printed("<a><b>\"\".", 0), "<a> <b> \"\" .\n");
    }

    private static void labelsByNumbers() {
        Check.sentence("a label _:b and its term's number");
        StringBuilder lines = new StringBuilder();
        for (int i = 0; i < 40; i++) {
            lines.append("_:l").append(i).append("<a").append(i).append(">_:m").append(i).append(".\n");
        }
        Counted x = Check.having(lines.toString());
        for (int i = 0; i < 33; i++) {
            x.drop(i < 29 ? 4 : 5);
        }
        Check.due("numbers of one, two and three digits", Check.printed(x, 0),
            "_:b0 <a0> _:b2 .\n_:b3 <a1> _:b5 .\n_:b6 <a2> _:b8 .\n_:b9 <a3> _:b11 .\n_:b99 <a33> _:b101 .\n"
            + "_:b114 <a38> _:b116 .\n_:b117 <a39> _:b119 .\n");
        Counted y = Check.having(lines.substring(0, lines.indexOf("_:l33")) + "<a><a>_:x.\n_:y<a>_:z.");
        for (int i = 0; i < 33; i++) {
            y.drop(0);
        }
        Check.due("the numbers 100 to 102", Check.printed(y, 0), "<a> <a> _:b100 .\n_:b101 <a> _:b102 .\n");
        Check.due("not its name", printed("_:b1 <a> _:b0 .", 0), "_:b0 <a> _:b2 .\n");
        Check.due("10 before 9 by bytes", printed("<0><1><2><3>.\n<4><5><6><7>.\n<8><0>_:x.\n_:x<0><1>.\n_:y<0><1>.\n", 1),
            "<0> <1> <2> <3> .\n<4> <5> <6> <7> .\n<8> <0> _:b9 .\n_:b10 <0> <1> .\n_:b9 <0> <1> .\n");
    }

    private static void literals() {
        Check.sentence("a literal \" codes \" and @ and tag, or ^^ and its type");
        Check.due("a plain one", printed("<a> <b> \"c\" .", 0), "<a> <b> \"c\" .\n");
        Check.due("an empty one", printed("<a> <b> \"\" .", 0), "<a> <b> \"\" .\n");
        Check.due("with a tag of one letter", printed("<a> <b> \"c\"@e .", 0), "<a> <b> \"c\"@e .\n");
        Check.due("with a tag", printed("<a> <b> \"\"@EN-Gb-09 .", 0), "<a> <b> \"\"@en-gb-09 .\n");
        Check.due("with a type", printed("<a> <b> \"\"^^<\\u0074\\u00e9> .", 0), "<a> <b> \"\"^^<t\\u00E9> .\n");
        Check.due("with term 0 as its type", printed("<a> <b> \"\"^^<a> .", 0), "<a> <b> \"\"^^<a> .\n");
    }

    private static void inLiteral(int code, String due) {
        String line = printed(String.format("<a> <b> \"\\U%08x\" .", code), 0);
        Check.due("print of code " + code + " in a literal", line, "<a> <b> \"" + due + "\" .\n");
    }

    private static void inNode(int code, String due) {
        String line = printed(String.format("<a> <b> <\\U%08x> .", code), 0);
        Check.due("print of code " + code + " in a node", line, "<a> <b> <" + due + "> .\n");
    }

    private static void bytesAsTheyAre() {
        Check.sentence("Codes 32 .. 126 are that byte");
        for (int code = 32; code <= 126; code++) {
            String sign = String.valueOf((char) code);
            if (code != '"' && code != '\\') {
                inLiteral(code, sign);
            }
            if (code != 32 && "<>\"{}|^`\\".indexOf(code) < 0) {
                inNode(code, sign);
            }
        }
        inLiteral(31, "\\u001F");
        inLiteral(127, "\\u007F");
        inNode(127, "\\u007F");
    }

    private static void slashesInLiterals() {
        Check.sentence("but in literals \" and \\ with a \\ before them");
        inLiteral('"', "\\\"");
        inLiteral('\\', "\\\\");
        Check.due("code 39 has none", printed("<a> <b> \"\\'\" .", 0), "<a> <b> \"'\" .\n");
    }

    private static void signsInLiterals() {
        Check.sentence("in literals 9 8 10 13 12 as \\ and t b n r f");
        inLiteral(9, "\\t");
        inLiteral(8, "\\b");
        inLiteral(10, "\\n");
        inLiteral(13, "\\r");
        inLiteral(12, "\\f");
        Check.due("a byte 9", printed("<a> <b> \"\t\" .", 0), "<a> <b> \"\\t\" .\n");
        inLiteral(7, "\\u0007");
        inLiteral(11, "\\u000B");
        inLiteral(14, "\\u000E");
    }

    private static void escapes() {
        Check.sentence("all others as an escape with great digits, with u up to 65535");
        for (int code : new int[] {0, 1, 31, 127, 128, 0xab, 255, 256, 0xcdef, 55295, 57344, 65534, 65535}) {
            inLiteral(code, String.format("\\u%04X", code));
        }
        for (int code : new int[] {65536, 65537, 0x1f600, 0xabcde, 0xfffff, 0x100000, 1114111}) {
            inLiteral(code, String.format("\\U%08X", code));
        }
        for (int code : new int[] {127, 128, 0xcdef, 65535}) {
            inNode(code, String.format("\\u%04X", code));
        }
        for (int code : new int[] {65536, 0xfedcb, 1114111}) {
            inNode(code, String.format("\\U%08X", code));
        }
    }

    private static void wrongForms() {
        Check.sentence("BAD: no such form");
        Counted x = Check.having("<a> <b> <c> .");
        x.print(0);
        x.drop(0);
        for (int form : new int[] {-1, 2, 3, MIN, MAX}) {
            Check.due("print(" + form + ")", x.print(form), TripleLines.BAD);
        }
        Check.due("the out stays", Check.out(x), "<a> <b> <c> .\n");
        Counted y = withLines(3001);
        Check.due("also where there are too many bytes", y.print(2), TripleLines.BAD);
    }

    private static void outIsFull() {
        Check.sentence("FULL: there would be more than 3000");
        Counted x = withLines(2999);
        Check.due("2999", x.print(0), 2999);
        Check.due("2999 by bytes", x.print(1), 2999);
        Counted y = withLines(3000);
        Check.due("3000", y.print(0), 3000);
        Check.due("3000 by bytes", y.print(1), 3000);
        Check.due("bytes in the out", y.count(4), 3000);
        Counted z = withLines(3001);
        Check.due("3001", z.print(0), TripleLines.FULL);
        Check.due("3001 by bytes", z.print(1), TripleLines.FULL);
        Check.due("bytes in the out", z.count(4), 0);
        z.drop(0);
        Check.due("a line less", z.print(0), 3001 - 92);
        Counted many = withLines(3037);
        Check.due("3037", many.print(1), TripleLines.FULL);
    }

    /** A reading of what was printed brings labels of its own, so that the lines grow by few calls. */
    private static void outStaysWithFull() {
        Check.sentence("(the out stays)");
        Counted x = Check.having("_:a <b> \"" + "\t".repeat(40) + "\" .");
        for (int i = 0; i < 5; i++) {
            x.print(0);
            x.pass();
            x.read();
        }
        Check.due("32 lines", x.count(0), 32);
        int before = 16 * "_:b0 <b> \"\" .\n".length() + 16 * 80 + 8;
        Check.due("bytes in the out", x.count(4), before);
        for (int form = 0; form < 2; form++) {
            Check.due("print(" + form + ")", x.print(form), TripleLines.FULL);
            Check.due("bytes in the out", x.count(4), before);
            Check.due("its first byte", x.at(0), (int) '_');
            Check.due("its label's digit", x.at(3), (int) '0');
            Check.due("its last byte", x.at(before - 1), 10);
            Check.due("behind it", x.at(before), TripleLines.BAD);
        }
    }

    private static void outIsReplaced() {
        Check.sentence("All quads are printed: how many bytes the out has");
        Counted x = Check.having("<a> <b> <c> .\n<d> <e> <f> .");
        Check.due("two lines", x.print(0), 28);
        Check.due("printed again", x.print(0), 28);
        x.drop(1);
        Check.due("one line", x.print(0), 14);
        Check.due("nothing is left of two", Check.out(x), "<a> <b> <c> .\n");
        Check.due("behind it", x.at(14), TripleLines.BAD);
        x.drop(0);
        Check.due("no line", x.print(1), 0);
        Check.due("nothing is left", x.at(0), TripleLines.BAD);
    }

    private static void bytesOfTheOut() {
        Check.sentence("Byte i of the out. BAD");
        Counted x = Check.having("<a> <b> \"\\u00e9\" .");
        x.print(0);
        String due = "<a> <b> \"\\u00E9\" .\n";
        for (int i = 0; i < due.length(); i++) {
            Check.due("at(" + i + ")", x.at(i), (int) due.charAt(i));
        }
        for (int i : new int[] {-1, due.length(), due.length() + 1, 2999, 3000, 3001, MIN, MAX}) {
            Check.due("at(" + i + ")", x.at(i), TripleLines.BAD);
        }
        Check.read(x, "<x> <y> <z> .");
        x.drop(0);
        Check.due("neither read nor drop changes it", Check.out(x), due);
    }

    private static void bytesOfAnEmptyOut() {
        Check.sentence("Byte i of the out. BAD");
        Counted x = Check.having("<a> <b> <c> .");
        for (int i : new int[] {-1, 0, 1, 2999, 3000, MIN, MAX}) {
            Check.due("at(" + i + ") before print", x.at(i), TripleLines.BAD);
        }
    }

    private static void bytesOfAFullOut() {
        Check.sentence("Byte i of the out. BAD");
        Counted x = withLines(3000);
        x.print(1);
        Check.due("at(0)", x.at(0), (int) '<');
        Check.due("at(2998)", x.at(2998), (int) '.');
        Check.due("at(2999)", x.at(2999), 10);
        Check.due("at(3000)", x.at(3000), TripleLines.BAD);
        Check.due("at(-1)", x.at(-1), TripleLines.BAD);
    }
}
