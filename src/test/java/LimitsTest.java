/** Promise 4: FULL, when there would be more than 120 terms or 80 quads. */
public final class LimitsTest {
    private LimitsTest() {
    }

    public static void main(String[] args) {
        eightyQuads();
        tooManyQuadsAtOnce();
        hundredAndTwentyTerms();
        tooManyTermsAtOnce();
        typeWithoutRoom();
        labelsWithoutRoom();
        faultGoesBeforeFull();
        Check.end();
    }

    /** Lines of so many quads, over 3 + 16 terms at most. */
    private static String quads(int from, int to) {
        StringBuilder lines = new StringBuilder();
        for (int i = from; i < to; i++) {
            lines.append("<a> <p").append(i % 8).append("> <o").append(i / 8).append("> .\n");
        }
        return lines.toString();
    }

    /** Lines that bring so many new nodes each, all as objects, with two terms beside them. */
    private static String nodes(int from, int to) {
        StringBuilder lines = new StringBuilder();
        for (int i = from; i < to; i++) {
            lines.append("<n").append(i).append("> <a> <a> .\n");
        }
        return lines.toString();
    }

    private static void stays(Counted x, int quads, int terms, int readings) {
        Check.due("quads that stay", x.count(0), quads);
        Check.due("terms that stay", x.count(1), terms);
        Check.due("readings that stay", x.count(2), readings);
        Check.due("an empty tape", x.count(3), 0);
    }

    private static void eightyQuads() {
        Counted x = new Counted();
        Check.due("eighty quads", Check.read(x, quads(0, 80)), 80);
        int terms = x.count(1);
        Check.due("one more", Check.read(x, "<a> <p0> <p0> ."), TripleLines.FULL);
        Check.due("lines read with FULL", x.line(), 1);
        stays(x, 80, terms, 1);
        Check.due("old ones when there are 80", Check.read(x, quads(0, 80)), 0);
        Check.due("old ones and a new one", Check.read(x, "<a> <p0> <o0> .\n\n<a> <p0> <p0> .\n"), TripleLines.FULL);
        Check.due("lines read with FULL", x.line(), 4);
        stays(x, 80, terms, 2);
        x.drop(79);
        Check.due("one when there are 79", Check.read(x, "<a> <p0> <p0> ."), 1);
        Check.due("the last quad", Check.parts(x, 79), "0 1 1 -2");
    }

    private static void tooManyQuadsAtOnce() {
        Counted x = new Counted();
        Check.due("81 quads", Check.read(x, quads(0, 81)), TripleLines.FULL);
        stays(x, 0, 0, 0);
        Check.due("80 quads with like ones", Check.read(x, quads(0, 80) + quads(0, 70)), 80);
        Check.due("readings", x.count(2), 1);
    }

    private static Counted withTerms(int terms) {
        Counted x = new Counted();
        Check.read(x, nodes(0, 79).replace("<a> .", "<a> <b> ."));
        for (int i = 0; i < 40; i++) {
            x.drop(0);
        }
        Check.read(x, nodes(79, terms - 2));
        Check.due("terms", x.count(1), terms);
        return x;
    }

    private static void hundredAndTwentyTerms() {
        Counted x = withTerms(119);
        Check.due("the 120th", Check.read(x, "<new> <a> <a> ."), 1);
        Check.due("the 121st", Check.read(x, "<newer> <a> <a> ."), TripleLines.FULL);
        Check.due("its number", x.term(120, 0), TripleLines.BAD);
        Check.due("the 120th's codes", Check.codes(x, 119), "new");
        Check.due("old terms, a new quad", Check.read(x, "<new> <new> <new> <new> ."), 1);
        Check.due("its parts", Check.parts(x, x.count(0) - 1), "119 119 119 119");
        Check.due("terms stay when quads go", x.drop(0) >= 0 ? x.count(1) : -1, 120);
    }

    private static void tooManyTermsAtOnce() {
        Counted x = withTerms(118);
        int quads = x.count(0);
        int readings = x.count(2);
        Check.due("three where two have room", Check.read(x, "<x> <y> <a> .\n<z> <a> <a> ."), TripleLines.FULL);
        stays(x, quads, 118, readings);
        Check.due("a graph without room", Check.read(x, "<x> <y> <a> <z> ."), TripleLines.FULL);
        stays(x, quads, 118, readings);
        Check.due("a literal without room", Check.read(x, "<x> <y> \"a\" ."), TripleLines.FULL);
        stays(x, quads, 118, readings);
        Check.due("two where two have room", Check.read(x, "<x> <y> <x> .\n\n<y> <x> <y> ."), 2);
        Check.due("terms", x.count(1), 120);
    }

    private static void typeWithoutRoom() {
        Counted x = withTerms(118);
        Check.due("a plain literal", Check.read(x, "<a> <a> \"c\" ."), 1);
        Check.due("a label", Check.read(x, "_:c <a> \"c\" ."), 1);
        Check.due("a type without room", Check.read(x, "<a> <a> \"c\"^^<new> ."), TripleLines.FULL);
        Check.due("terms", x.count(1), 120);
        Check.due("a type that is there, a literal without room", Check.read(x, "<a> <a> \"c\"^^<a> ."), TripleLines.FULL);
        Check.due("a tag without room", Check.read(x, "<a> <a> \"c\"@en ."), TripleLines.FULL);
        Counted y = withTerms(119);
        Check.due("room for the type alone", Check.read(y, "<a> <a> \"c\"^^<new> ."), TripleLines.FULL);
        Check.due("no type is left", y.count(1), 119);
    }

    private static void labelsWithoutRoom() {
        Counted x = withTerms(119);
        Check.due("a label", Check.read(x, "_:l <a> _:l ."), 1);
        Check.due("the same name in another reading", Check.read(x, "_:l <a> <a> ."), TripleLines.FULL);
        Check.due("terms", x.count(1), 120);
    }

    private static void faultGoesBeforeFull() {
        Counted x = new Counted();
        String lines = quads(0, 81);
        Check.due("a fault behind what has no room", Check.read(x, lines + "\n!"), -10 - lines.length() - 1);
        Check.due("its line", x.line(), 82);
        stays(x, 0, 0, 0);
        lines = nodes(0, 79) + "<a> <a> \"1\"^^<2> <3> .\n" + nodes(79, 130);
        Counted y = new Counted();
        Check.due("a fault behind terms without room", Check.read(y, lines + "<a> <a> \"\\"), -10 - lines.length() - 9);
        stays(y, 0, 0, 0);
        Counted z = new Counted();
        Check.due("both without room", Check.read(z, lines), TripleLines.FULL);
        Check.due("lines", z.line(), 132);
        stays(z, 0, 0, 0);
    }
}
