/** Promises 11 and 12: print and at. */
public final class PrintTest {
    private PrintTest() {
    }

    public static void main(String[] args) {
        forms();
        terms();
        escapes();
        byBytes();
        exactlyFull();
        bytesOfTheOut();
        comesBack();
        Check.end();
    }

    private static String printed(String lines, int form) {
        Counted x = new Counted();
        Check.read(x, lines);
        return Check.printed(x, form);
    }

    private static void forms() {
        Counted x = new Counted();
        Check.due("no quads", x.print(0), 0);
        Check.due("no quads by bytes", x.print(1), 0);
        Check.read(x, "<a> <b> <c> .");
        x.print(0);
        x.drop(0);
        int[] wrong = {-1, 2, Integer.MIN_VALUE, Integer.MAX_VALUE};
        for (int form : wrong) {
            Check.due("print(" + form + ")", x.print(form), TripleLines.BAD);
        }
        Check.due("the out stays", Check.out(x), "<a> <b> <c> .\n");
        Check.due("print none", x.print(1), 0);
        Check.due("the out is empty then", x.at(0), TripleLines.BAD);
    }

    private static void terms() {
        Check.due("one form", printed("<a><b>\t\"c\"@EN-Gb.\r#x\n_:x<b>\"\"^^<t>_:y.", 0),
            "<a> <b> \"c\"@en-gb .\n_:b3 <b> \"\"^^<t> _:b6 .\n");
        StringBuilder lines = new StringBuilder();
        for (int i = 0; i < 30; i++) {
            lines.append(String.format("_:l%d <a%d> _:m%d _:n%d .\n", i, i, i, i));
        }
        Counted x = Check.having(lines.toString());
        for (int i = 0; i < 20; i++) {
            x.drop(4);
        }
        Check.due("labels by their numbers", Check.printed(x, 0),
            "_:b0 <a0> _:b2 _:b3 .\n_:b4 <a1> _:b6 _:b7 .\n_:b8 <a2> _:b10 _:b11 .\n_:b12 <a3> _:b14 _:b15 .\n"
            + "_:b96 <a24> _:b98 _:b99 .\n_:b100 <a25> _:b102 _:b103 .\n_:b104 <a26> _:b106 _:b107 .\n"
            + "_:b108 <a27> _:b110 _:b111 .\n_:b112 <a28> _:b114 _:b115 .\n_:b116 <a29> _:b118 _:b119 .\n");
    }

    private static void escapes() {
        StringBuilder got = new StringBuilder();
        StringBuilder due = new StringBuilder();
        for (int code = 0; code < 128; code++) {
            got.append(printed(String.format("<a> <b> \"\\u%04x\" .", code), 0));
            String shown = code == 9 ? "\\t" : code == 8 ? "\\b" : code == 10 ? "\\n" : code == 13 ? "\\r"
                : code == 12 ? "\\f" : code == 34 ? "\\\"" : code == 92 ? "\\\\"
                : code < 32 || code == 127 ? String.format("\\u%04X", code) : String.valueOf((char) code);
            due.append("<a> <b> \"").append(shown).append("\" .\n");
        }
        Check.due("codes below 128", got.toString(), due.toString());
        Check.due("great digits, and the sizes", printed(
            "<a> <b> \"\\u00ab\\uffff\\U0000abcd\\U00010000\\U0010fffd\\'\" .", 0),
            "<a> <b> \"\\u00AB\\uFFFF\\uABCD\\U00010000\\U0010FFFD'\" .\n");
        Check.due("in nodes", printed("<\\u007e\\u007f\\u0027\\U000000e9\\U000e0001> <b> \"\"^^<\\u00df> .", 0),
            "<~\\u007F'\\u00E9\\U000E0001> <b> \"\"^^<\\u00DF> .\n");
    }

    private static void byBytes() {
        String lines = "_:a <b> <c> .\n<b> <b> <c> .\n<a> <b> <c> <d> .\n<a> <b> <c> .\n<a> <b> \"c\" .\n"
            + "<a> <b> \"\\u00e9\" .\n<aa> <b> <c> .\n<a> <b> \"c\"@en .\n<a> <b> \"c\"^^<c> .\n<A> <b> <c> .\n";
        String due = "<A> <b> <c> .\n<a> <b> \"\\u00E9\" .\n<a> <b> \"c\" .\n<a> <b> \"c\"@en .\n"
            + "<a> <b> \"c\"^^<c> .\n<a> <b> <c> .\n<a> <b> <c> <d> .\n<aa> <b> <c> .\n<b> <b> <c> .\n_:b0 <b> <c> .\n";
        Counted x = new Counted();
        Check.read(x, lines);
        Check.due("by bytes", Check.printed(x, 1), due);
        Check.due("the quads keep their numbers", Check.parts(x, 0), "0 1 2 -2");
        Check.due("in their order", Check.printed(x, 0), lines.replace("_:a", "_:b0").replace("00e9", "00E9"));
        x.drop(0);
        Check.due("by bytes without one", Check.printed(x, 1), due.substring(0, due.indexOf("_:b0")));
        Check.due("labels by the bytes of their numbers, 10 before 2",
            printed("<1> <3> _:2 .\n<4> <5> <6> .\n<7> <8> <9> <0> .\n_:2 <3> <1> .\n_:10 <3> <1> .\n", 1),
            "<1> <3> _:b2 .\n<4> <5> <6> .\n<7> <8> <9> <0> .\n_:b10 <3> <1> .\n_:b2 <3> <1> .\n");
    }

    /** A line of 134 bytes and some more, up to 40. */
    private static String longLine(int more) {
        return "<" + "x".repeat(40) + "> <" + "y".repeat(40) + "> \"" + "z".repeat(more) + "\" <" + "g".repeat(40) + "> .";
    }

    /** Seven lines of 404 bytes each. */
    private static Counted withLongLines() {
        Counted x = new Counted();
        for (int i = 0; i < 7; i++) {
            Check.read(x, "<" + i + "\\U0001F600".repeat(39) + "> <b> <c> .");
        }
        return x;
    }

    private static void exactlyFull() {
        Counted x = withLongLines();
        Check.due("seven lines", x.print(0), 2828);
        Check.read(x, longLine(38));
        Check.due("3000 bytes", x.print(0), 3000);
        Check.due("3000 bytes by bytes", x.print(1), 3000);
        Check.due("the last one", x.at(2999), 10);
        Counted y = withLongLines();
        Check.read(y, longLine(39));
        Check.due("3001 bytes", y.print(0), TripleLines.FULL);
        Check.due("3001 bytes by bytes", y.print(1), TripleLines.FULL);
        Check.due("the out stays empty", y.count(4), 0);
        Check.due("BAD goes before FULL", y.print(2), TripleLines.BAD);
        y.drop(0);
        Check.due("one line less", y.print(1), 6 * 404 + 173);
    }

    private static void bytesOfTheOut() {
        Counted x = new Counted();
        Check.read(x, "<a> <b> <c> .");
        Check.due("before print", x.at(0), TripleLines.BAD);
        x.print(0);
        Check.due("the first one", x.at(0), 60);
        Check.due("the last one", x.at(13), 10);
        int[] wrong = {Integer.MIN_VALUE, -1, 14, 2999, 3000, Integer.MAX_VALUE};
        for (int i : wrong) {
            Check.due("at(" + i + ")", x.at(i), TripleLines.BAD);
        }
        Check.read(x, "<d> <e> <f> .");
        Check.due("a reading leaves the out", Check.out(x), "<a> <b> <c> .\n");
    }

    private static void comesBack() {
        Counted x = new Counted();
        Check.read(x, "<a\\u00e9> <b> \"\\u0000\\t\\b\\n\\r\\f\\\"\\'\\\\~\\u007f\\U0010FFFF\"@en-1 <g> .\n<a> <b> \"x\"^^<y> .");
        x.print(1);
        String out = Check.out(x);
        x.pass();
        Check.due("what is printed is there", x.read(), 0);
        Check.due("and the same", Check.printed(x, 1), out);
    }
}
