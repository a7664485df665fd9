/** Promises 4, 6, 7 and 8: what a reading makes of a tape, and quad, term and code of it. */
public final class TermsTest {
    private TermsTest() {
    }

    public static void main(String[] args) {
        numbersTerms();
        likeTerms();
        labelsHoldWithinOneReading();
        likeQuads();
        factsOfTerms();
        codes();
        faultLeavesAll();
        wrongNumbers();
        Check.end();
    }

    private static void numbersTerms() {
        Counted x = new Counted();
        Check.due("three quads", Check.read(x, "_:a <p> \"c\"^^<t> <g> .\n<t> <p> <t> .\n<t> <p> _:a _:b ."), 3);
        Check.due("terms", x.count(1), 6);
        Check.due("quad 0, its type before its literal", Check.parts(x, 0), "0 1 3 4");
        Check.due("quad 1", Check.parts(x, 1), "2 1 2 -2");
        Check.due("quad 2", Check.parts(x, 2), "2 1 0 5");
        Check.due("type", Check.codes(x, 2), "t");
        Check.due("literal", Check.codes(x, 3), "c");
        Check.due("one quad more", Check.read(x, "<g> <new> \"c\"^^<t> ."), 1);
        Check.due("quad 3", Check.parts(x, 3), "4 6 3 -2");
    }

    private static void likeTerms() {
        Counted x = new Counted();
        Check.read(x, "<a> <\\u0061> \"a\" .\n<a> <\\U00000061> \"\\u0061\" _:a .");
        Check.due("a node by its codes", Check.parts(x, 0), "0 0 1 -2");
        Check.due("a literal by its codes", Check.parts(x, 1), "0 0 1 2");
        Check.read(x, "<a> <a> \"a\"@en .\n<a> <a> \"a\"@EN .\n<a> <a> \"a\"@en-GB .\n<a> <a> \"a\"@e .");
        Check.due("great letters of a tag become small", x.count(0), 5);
        Check.due("terms with tags", x.count(1), 6);
        Check.read(x, "<a> <a> \"a\"^^<a> .\n<a> <a> \"a\"^^<b> .\n<a> <a> \"A\" .\n<A> <a> \"a\"^^<\\u0062> .");
        Check.due("quad with a type", Check.parts(x, 5), "0 0 6 -2");
        Check.due("quad with another type", Check.parts(x, 6), "0 0 8 -2");
        Check.due("codes in another size", Check.parts(x, 7), "0 0 9 -2");
        Check.due("a node in another size", Check.parts(x, 8), "10 0 8 -2");
        Check.read(x, "<a> <a> \"\" .\n<a> <a> \"\"@a .\n<a> <a> \"\"^^<a> .\n<aa> <a> <a> .\n<a> <a> \"aa\" .");
        Check.due("a text is not its beginning", x.count(1), 16);
        Check.due("empty literals differ", x.count(0), 14);
        Check.due("tags of one length differ", Check.read(x, "<a> <a> \"a\"@fr .\n<a> <a> \"a\"@fn .\n<a> <a> \"a\"@Fn ."), 2);
    }

    private static void labelsHoldWithinOneReading() {
        Counted x = new Counted();
        Check.due("first reading", Check.read(x, "_:a <p> _:a _:A .\n_:a.b <p> _:b ."), 2);
        Check.due("labels of one reading", Check.parts(x, 0), "0 1 0 2");
        Check.due("names with dots", Check.parts(x, 1), "3 1 4 -2");
        Check.due("second reading", Check.read(x, "_:a <p> _:a _:A ."), 1);
        Check.due("the same names, another reading", Check.parts(x, 2), "5 1 5 6");
        Check.read(x, "_:new <p> ");
        Check.read(x, "_:new <p> _:a .");
        Check.due("a reading with a fault leaves no labels", Check.parts(x, 3), "7 1 8 -2");
        Check.due("a node is no label", Check.read(x, "<a> <p> _:p ."), 1);
        Check.due("of the same name", Check.parts(x, 4), "9 1 10 -2");
    }

    private static void likeQuads() {
        Counted x = new Counted();
        String lines = "<a> <b> <c> .\n<a> <b> <c> <g> .\n<a> <b> <c> .\n<a> <b> <c> <h> .\n<a> <b> <c> <g> .";
        Check.due("quads that were not there", Check.read(x, lines), 3);
        Check.due("read again", Check.read(x, lines), 0);
        Check.due("quads", x.count(0), 3);
        Check.due("one of two is new", Check.read(x, "<a> <b> <c> .\n<c> <b> <a> ."), 1);
        Check.due("readings", x.count(2), 3);
        x.drop(0);
        Check.due("what was dropped may come again", Check.read(x, lines), 1);
        Check.due("as the last one", Check.parts(x, 3), "0 1 2 -2");
    }

    private static void factsOfTerms() {
        Counted x = new Counted();
        Check.read(x, "_:name.1 <p> \"\" <gr> .\n_:x <p> \"abc\"@EN-x9 .\n_:x <p> \"\\n\"^^<t> .");
        Check.due("a label", Check.facts(x, 0), "1 0 6 0 -2");
        Check.due("a node", Check.facts(x, 1), "0 0 1 0 -2");
        Check.due("a plain literal", Check.facts(x, 2), "2 0 0 0 -2");
        Check.due("a graph", Check.facts(x, 3), "0 0 2 0 -2");
        Check.due("a literal with a tag", Check.facts(x, 5), "2 1 3 5 -2");
        Check.due("a type", Check.facts(x, 6), "0 0 1 0 -2");
        Check.due("a literal with a type", Check.facts(x, 7), "2 2 1 0 6");
        Check.due("a tag of 16", Check.read(x, "<a> <b> \"\"@abcdefgh-1234567 ."), 1);
        Check.due("its letters", x.term(10, 3), 16);
        Check.due("its tag as printed", Check.printed(x, 0).contains("\"\"@abcdefgh-1234567 .\n"), true);
    }

    private static void codes() {
        Counted x = new Counted();
        Check.read(x, "<a\\u00e9\\U0001F600> <b> \"\\t\\b\\n\\r\\f\\\"\\'\\\\\\u0000\\U0010ffff\t~\" _:a.b .");
        Check.due("codes of a node", Check.codes(x, 0), "a\u00e9\ud83d\ude00");
        Check.due("codes of a literal", Check.codes(x, 2), "\t\b\n\r\f\"'\\\u0000\udbff\udfff\t~");
        Check.due("how many", x.term(2, 2), 12);
        Check.due("the last one", x.code(2, 11), 126);
        Check.due("one behind it", x.code(2, 12), TripleLines.BAD);
        Check.due("one before the first", x.code(2, -1), TripleLines.BAD);
        Check.due("a label's name", Check.codes(x, 3), "a.b");
        Check.due("behind a name", x.code(3, 3), TripleLines.BAD);
        Check.due("an empty literal", Check.read(x, "<b> <b> \"\" ."), 1);
        Check.due("has no code", x.code(4, 0), TripleLines.BAD);
        String forty = "abcdefghijklmnopqrstuvwxyz01234567890123";
        Check.read(x, "<" + forty + "> <b> \"" + forty + "\" .\n<b> <b> _:abcdefghijkl .");
        Check.due("forty codes of a node", Check.codes(x, 5), forty);
        Check.due("forty codes of a literal", Check.codes(x, 6), forty);
        Check.due("twelve bytes of a name", Check.codes(x, 7), "abcdefghijkl");
        Check.due("a 41st", x.code(5, 40), TripleLines.BAD);
    }

    private static void faultLeavesAll() {
        Counted x = new Counted();
        Check.read(x, "<a> <b> \"c\"@en .");
        Check.due("a fault behind new quads", Check.read(x, "<x> <y> <z> .\n<x> <y> \"z\"^^<w> _:v .\n!"), -47);
        Check.due("quads stay", x.count(0), 1);
        Check.due("terms stay", x.count(1), 3);
        Check.due("no new term", x.term(3, 0), TripleLines.BAD);
        Check.due("nor code", x.code(3, 0), TripleLines.BAD);
        Check.due("nor quad", x.quad(1, 0), TripleLines.BAD);
        Check.due("the tape is empty", x.count(3), 0);
        Check.due("the old ones are the same", Check.parts(x, 0) + ", " + Check.facts(x, 2), "0 1 2 -2, 2 1 1 2 -2");
        Check.due("then new ones", Check.read(x, "<n> <b> <o> ."), 1);
        Check.due("are numbered behind the old ones", Check.parts(x, 1), "3 1 4 -2");
    }

    private static void wrongNumbers() {
        Counted x = new Counted();
        Check.read(x, "<a> <b> <c> .");
        int[] wrong = {Integer.MIN_VALUE, -2, -1, 5, 80, 120, 1 << 30, Integer.MAX_VALUE};
        for (int n : wrong) {
            Check.due("quad(" + n + ", 0)", x.quad(n, 0), TripleLines.BAD);
            Check.due("quad(0, " + n + ")", x.quad(0, n), TripleLines.BAD);
            Check.due("term(" + n + ", 0)", x.term(n, 0), TripleLines.BAD);
            Check.due("term(" + n + ", 4)", x.term(n, 4), TripleLines.BAD);
            Check.due("term(0, " + n + ")", x.term(0, n), TripleLines.BAD);
            Check.due("code(" + n + ", 0)", x.code(n, 0), TripleLines.BAD);
            Check.due("code(0, " + n + ")", x.code(0, n), TripleLines.BAD);
        }
        Check.due("quad(0, 4)", x.quad(0, 4), TripleLines.BAD);
        Check.due("quad(1, 3)", x.quad(1, 3), TripleLines.BAD);
        Check.due("quad(0, 3)", x.quad(0, 3), TripleLines.NO);
        Check.due("term(3, 0)", x.term(3, 0), TripleLines.BAD);
    }
}
