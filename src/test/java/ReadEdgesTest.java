/** Promises 4 and 5, read and line: each sentence that names an edge, by itself. */
public final class ReadEdgesTest {
    private ReadEdgesTest() {
    }

    public static void main(String[] args) {
        tapeIsEmptyThen();
        quadsThatCame();
        placeOfFault();
        fullOnlyWithoutFault();
        termsAtOnce();
        termsOverReadings();
        termOfEachKindWithoutRoom();
        typeWithoutRoom();
        labelsWithoutRoom();
        quadsAtOnce();
        quadsOverReadings();
        staysWithFault();
        staysWithFull();
        lineBefore();
        lineOfFault();
        linesWithoutFault();
        linesWithFull();
        lineOfLatest();
        Check.end();
    }

    /** Lines with so many terms in all, four a line; the last line is filled up with term 0. */
    private static String lines(int terms) {
        StringBuilder lines = new StringBuilder();
        for (int t = 0; t < terms || t % 4 != 0; t++) {
            lines.append(t < terms ? "<a" + t + ">" : "<a0>").append(t % 4 == 3 ? ".\n" : "");
        }
        return lines.toString();
    }

    /** So many quads over 21 terms at most, from the one of this number. */
    private static String quads(int from, int to) {
        StringBuilder lines = new StringBuilder();
        for (int i = from; i < to; i++) {
            lines.append("<s><p").append(i / 9).append("><o").append(i % 9).append(">.\n");
        }
        return lines.toString();
    }

    private static Counted withTerms(int terms) {
        Counted x = Check.having(lines(terms));
        Check.due("terms", x.count(1), terms);
        return x;
    }

    private static Counted withQuads(int quads) {
        Counted x = Check.having(quads(0, quads));
        Check.due("quads", x.count(0), quads);
        return x;
    }

    private static void tapeIsEmptyThen() {
        Check.sentence("The tape, which is empty then whatever the answer");
        Counted x = new Counted();
        Check.due("nothing came", Check.read(x, "# x"), 0);
        Check.due("bytes after no quad", x.count(3), 0);
        Check.due("a quad came", Check.read(x, "<a><b><c>."), 1);
        Check.due("bytes after a quad", x.count(3), 0);
        Check.due("a fault", Check.read(x, "<a><b>\n<a><b><d>."), -16);
        Check.due("bytes after a fault", x.count(3), 0);
        Check.due("an empty tape", x.read(), 0);
        Check.due("the next byte is the first", x.type('x', 1), 1);
        Check.due("and its fault at 0", x.read(), -10);
        Counted y = withQuads(80);
        Check.due("full", Check.read(y, "<s><s><s>."), TripleLines.FULL);
        Check.due("bytes after FULL", y.count(3), 0);
    }

    private static void quadsThatCame() {
        Check.sentence("how many quads came that were not there");
        Counted x = new Counted();
        Check.due("none", x.read(), 0);
        Check.due("one of two like ones", Check.read(x, "<a><b><c>.\n<a><b><c>."), 1);
        Check.due("one that is there, and one not", Check.read(x, "<a><b><c>.\n<a><b><c><d>."), 1);
        Check.due("all are there", Check.read(x, "<a><b><c>.\n<a><b><c><d>."), 0);
        x.drop(0);
        Check.due("one that was dropped", Check.read(x, "<a><b><c>."), 1);
        Check.due("80 at once", Check.read(new Counted(), quads(0, 80)), 80);
    }

    private static void placeOfFault() {
        Check.sentence("-10 less the place of the first fault (from 0)");
        Check.due("at the first byte", Check.read(new Counted(), "x"), -10);
        Check.due("at the second byte", Check.read(new Counted(), " x"), -11);
        Check.due("in another line", Check.read(new Counted(), "<a><b><c>.\n\nx"), -22);
        Check.due("at the 3000th byte", Check.read(new Counted(), "#".repeat(2998) + "\nx"), -3009);
        Check.due("at the tape's length", Check.read(new Counted(), "#".repeat(2996) + "\n<a>"), -3010);
    }

    private static void fullOnlyWithoutFault() {
        Check.sentence("FULL when there is none");
        Counted x = withTerms(120);
        Check.due("a fault behind terms without room", Check.read(x, "<x><y><z>.\n!"), -21);
        Check.due("a fault in the statement without room", Check.read(x, "<x><y><z>"), -19);
        Check.due("terms without room", Check.read(x, "<x><y><z>."), TripleLines.FULL);
        Counted y = withQuads(80);
        Check.due("a fault behind quads without room", Check.read(y, "<s><s><s>.\n!"), -21);
        Check.due("quads without room", Check.read(y, "<s><s><s>.\n"), TripleLines.FULL);
    }

    private static void termsAtOnce() {
        Check.sentence("FULL .. there would be more than 120 terms");
        Counted x = new Counted();
        Check.due("121 terms at once", Check.read(x, lines(121)), TripleLines.FULL);
        Check.due("none stays", Check.counts(x), "0 0 0 0 0");
        Counted y = new Counted();
        Check.due("120 terms at once", Check.read(y, lines(120)), 30);
        Check.due("terms", y.count(1), 120);
        Check.due("the last one's codes", Check.codes(y, 119), "a119");
        Check.due("one behind it", y.term(120, 0), TripleLines.BAD);
    }

    private static void termsOverReadings() {
        Check.sentence("there would be more than 120 terms");
        Counted x = withTerms(119);
        Check.due("two where one has room", Check.read(x, "<a0><x><y>."), TripleLines.FULL);
        Check.due("the 120th", Check.read(x, "<a0><x><x>."), 1);
        Check.due("the 121st", Check.read(x, "<a0><y><x>."), TripleLines.FULL);
        Check.due("a new quad of old terms", Check.read(x, "<x><x><x><x>."), 1);
        Check.due("terms", x.count(1), 120);
        x.drop(0);
        Check.due("a term stays when its quad goes", Check.read(x, "<a0><y><x>."), TripleLines.FULL);
    }

    private static void termOfEachKindWithoutRoom() {
        Check.sentence("there would be more than 120 terms");
        Counted x = withTerms(120);
        for (String tape : new String[] {"<x><a0><a0>.", "_:x<a0><a0>.", "<a0><x><a0>.", "<a0><a0><x>.", "<a0><a0>_:x.",
            "<a0><a0>\"x\".", "<a0><a0>\"\".", "<a0><a0>\"x\"@en.", "<a0><a0>\"x\"^^<a0>.", "<a0><a0><a0><x>.", "<a0><a0><a0>_:x."}) {
            Check.due("read of " + tape, Check.read(x, tape), TripleLines.FULL);
        }
        Check.due("counts", Check.counts(x), "30 120 1 0 0");
    }

    private static void typeWithoutRoom() {
        Check.sentence("there would be more than 120 terms");
        Counted x = withTerms(119);
        Check.due("room for the type alone", Check.read(x, "<a0><a0>\"x\"^^<x>."), TripleLines.FULL);
        Check.due("the type is gone too", x.count(1), 119);
        Check.due("room for the literal", Check.read(x, "<a0><a0>\"x\"^^<a0>."), 1);
        Check.due("its facts", Check.facts(x, 119), "2 2 1 0 0");
    }

    private static void labelsWithoutRoom() {
        Check.sentence("there would be more than 120 terms");
        Counted x = withTerms(119);
        Check.due("a label", Check.read(x, "_:x<a0>_:x."), 1);
        Check.due("a label of the same name is another one", Check.read(x, "_:x<a0>_:x."), TripleLines.FULL);
        Check.due("terms", x.count(1), 120);
    }

    private static void quadsAtOnce() {
        Check.sentence("FULL .. more than .. 80 quads");
        Counted x = new Counted();
        Check.due("81 quads at once", Check.read(x, quads(0, 81)), TripleLines.FULL);
        Check.due("none stays", Check.counts(x), "0 0 0 0 0");
        Counted y = new Counted();
        Check.due("80 quads, 30 of them twice", Check.read(y, quads(0, 80) + quads(50, 80)), 80);
        Check.due("the last one", y.quad(79, 0), 0);
        Check.due("one behind it", y.quad(80, 0), TripleLines.BAD);
    }

    private static void quadsOverReadings() {
        Check.sentence("more than .. 80 quads");
        Counted x = withQuads(79);
        Check.due("two where one has room", Check.read(x, quads(79, 81)), TripleLines.FULL);
        Check.due("the 80th", Check.read(x, quads(78, 80)), 1);
        Check.due("one that is there", Check.read(x, quads(0, 3)), 0);
        Check.due("the 81st", Check.read(x, quads(80, 81)), TripleLines.FULL);
        Check.due("the 81st behind one that is there", Check.read(x, quads(79, 81)), TripleLines.FULL);
        x.drop(0);
        Check.due("one where one was dropped", Check.read(x, quads(80, 81)), 1);
        Check.due("quads", x.count(0), 80);
    }

    private static void staysWithFault() {
        Check.sentence("terms and quads stay with both");
        Counted x = Check.having("<a> <b> \"c\"@en .\n_:d <b> <a> .");
        x.print(0);
        String before = Check.counts(x) + Check.parts(x, 1) + Check.facts(x, 2) + Check.out(x);
        Check.due("a fault", Check.read(x, "<x> <y> \"z\"^^<t> _:g .\n<a> <b> <c> .\nx"), -47);
        Check.due("all stays", Check.counts(x) + Check.parts(x, 1) + Check.facts(x, 2) + Check.out(x), before);
        Check.due("no new term", x.term(4, 0), TripleLines.BAD);
        Check.due("no new code", x.code(4, 0), TripleLines.BAD);
        Check.due("no new quad", x.quad(2, 0), TripleLines.BAD);
        Check.due("then a new one", Check.read(x, "<n> <m> \"\" ."), 1);
        Check.due("its parts", Check.parts(x, 2), "4 5 6 -2");
        Check.due("a plain literal where a type was", Check.facts(x, 6), "2 0 0 0 -2");
    }

    private static void staysWithFull() {
        Check.sentence("terms and quads stay with both");
        Counted x = withTerms(118);
        String before = Check.counts(x) + Check.parts(x, 29) + Check.facts(x, 117);
        Check.due("full", Check.read(x, "<x> <y> <a0> .\n<a0> <a0> \"z\"@en ."), TripleLines.FULL);
        Check.due("all stays", Check.counts(x) + Check.parts(x, 29) + Check.facts(x, 117), before);
        Check.due("no new term", x.term(118, 0), TripleLines.BAD);
        Check.due("no new quad", x.quad(30, 0), TripleLines.BAD);
        Check.due("then two new terms", Check.read(x, "<n> <m> <n> ."), 1);
        Check.due("their quad", Check.parts(x, 30), "118 119 118 -2");
    }

    private static void lineBefore() {
        Check.sentence("0 before");
        Counted x = new Counted();
        Check.due("a new object", x.line(), 0);
        Check.put(x, "\n\n\n");
        Check.due("bytes on the tape", x.line(), 0);
        x.print(0);
        x.pass();
        Check.due("after print and pass", x.line(), 0);
    }

    private static void line(String tape, int due) {
        Counted x = new Counted();
        Check.read(x, tape);
        Check.due("line() after read of " + Check.shown(tape), x.line(), due);
    }

    private static void lineOfFault() {
        Check.sentence("The number (from 0) of the line in which the latest read()'s fault was");
        line("x", 0);
        line("x\n\n\n", 0);
        line("\nx", 1);
        line("\n\n \n#\n  x", 4);
        line("<a>\n<b> <c> .", 0);
        line("\n<a> <b> \"c\n\" .", 1);
        line("\n<a> <b> \"\\\n\" .", 1);
        line("\n\n<a> <b> <c>", 2);
        line("\n\n<a> <b> <c>\n", 2);
        line("\n<a> <b> <c> .\n<a> <b> _:", 2);
        line("\n".repeat(2999) + "x", 2999);
    }

    private static void linesWithoutFault() {
        Check.sentence("how many lines it read when there was none (bytes 10, and one more)");
        line("", 1);
        line(" ", 1);
        line("#", 1);
        line("\n", 2);
        line("<a> <b> <c> .", 1);
        line("<a> <b> <c> .\n", 2);
        line("<a> <b> \"\\n\" .\n#\n", 3);
        line("\r\r\n\r", 2);
        line("\n".repeat(3000), 3001);
    }

    private static void linesWithFull() {
        Check.sentence("how many lines it read when there was none");
        Counted x = withTerms(120);
        Check.due("full in the first of four lines", Check.read(x, "<x><y><z>.\n\n#\n"), TripleLines.FULL);
        Check.due("line()", x.line(), 4);
        Check.due("a fault behind", Check.read(x, "<x><y><z>.\n\n!\n"), -22);
        Check.due("line()", x.line(), 2);
    }

    private static void lineOfLatest() {
        Check.sentence("the latest read()");
        Counted x = new Counted();
        Check.read(x, "\n\nx");
        Check.put(x, "\n\n\n");
        x.print(0);
        x.pass();
        x.type(0L, 9);
        Check.due("it stays until the next one", x.line(), 2);
        Check.due("also when it is asked for again", x.line(), 2);
        x.read();
        Check.due("then it is that one's", x.line(), 4);
        x.read();
        Check.due("also of an empty tape", x.line(), 1);
        Check.read(x, "x");
        Check.due("also of a fault", x.line(), 0);
    }
}
