/** Promises 1 to 3 and 6 to 13: each sentence that names an edge, by itself. */
public final class CallsEdgesTest {
    private static final int MIN = Integer.MIN_VALUE;
    private static final int MAX = Integer.MAX_VALUE;

    private CallsEdgesTest() {
    }

    public static void main(String[] args) {
        lastCall();
        newObject();
        objectsAreApart();
        lowestBytes();
        wrongLengths();
        typeIsFull();
        passOfEmptyOut();
        passIsFull();
        passOfFullOut();
        wrongQuads();
        quadWithoutGraph();
        wrongTerms();
        sortsOfTerms();
        numbersOfCodes();
        lettersOfTags();
        termWithoutType();
        wrongCodes();
        finds();
        findsNone();
        drops();
        wrongDrops();
        termsStayWithDrop();
        wrongCounts();
        readingsThatCount();
        refusedCallsChangeNothing();
        Check.end();
    }

    private static void lastCall() {
        Check.sentence("An object is used for at most 512 calls after it has been made");
        Counted x = new Counted();
        for (int i = 1; i < 512; i++) {
            x.type(' ', 1);
        }
        Check.due("the 512th call", x.count(3), 511);
    }

    private static void newObject() {
        Check.sentence("An empty tape, an empty out, no terms, no quads");
        Counted x = new Counted();
        Check.due("counts", Check.counts(x), "0 0 0 0 0");
        Check.due("line()", x.line(), 0);
        Check.due("at(0)", x.at(0), TripleLines.BAD);
        Check.due("quad(0, 0)", x.quad(0, 0), TripleLines.BAD);
        Check.due("quad(0, 3)", x.quad(0, 3), TripleLines.BAD);
        Check.due("term(0, 0)", x.term(0, 0), TripleLines.BAD);
        Check.due("term(0, 4)", x.term(0, 4), TripleLines.BAD);
        Check.due("code(0, 0)", x.code(0, 0), TripleLines.BAD);
        Check.due("find", x.find(0, 0, 0, -1), TripleLines.NO);
        Check.due("find of zeros", x.find(0, 0, 0, 0), TripleLines.NO);
        Check.due("drop(0)", x.drop(0), TripleLines.BAD);
        Check.due("pass()", x.pass(), 0);
        Check.due("print(0)", x.print(0), 0);
        Check.due("print(1)", x.print(1), 0);
        Check.due("read()", x.read(), 0);
    }

    private static void objectsAreApart() {
        Check.sentence("A new object: An empty tape, an empty out, no terms, no quads");
        Counted x = Check.having("<a> <b> <c> .");
        x.print(0);
        x.type(' ', 1);
        Counted y = new Counted();
        Check.due("one made beside another", Check.counts(y), "0 0 0 0 0");
        Check.read(y, "<d> <e> <f> <g> .");
        Check.due("the other one", Check.counts(x), "1 3 1 1 14");
        Check.due("its codes", Check.codes(x, 0), "a");
    }

    private static void lowestBytes() {
        Check.sentence("The lowest n bytes of bytes, the highest of them first, come behind the tape: its length");
        String text = "ABCDEFGH";
        for (int n = 1; n <= 8; n++) {
            Counted x = new Counted();
            x.type('<', 1);
            Check.due("its length", x.type(0x4142434445464748L, n), 1 + n);
            Check.read(x, "> <p> <o> .");
            Check.due(n + " bytes", Check.codes(x, 0), text.substring(8 - n));
        }
        Counted y = new Counted();
        y.type(-1L, 1);
        Check.due("a byte 255 is none below 0", y.read(), -10);
        y.type(0xff20202020202020L, 8);
        Check.due("the highest of eight", y.read(), -10);
        y.type(0x20202020202020ffL, 8);
        Check.due("the lowest of eight", y.read(), -17);
        y.type(0xffffffffffffff20L, 1);
        Check.due("those above the lowest don't come", y.read(), 0);
        y.type(Long.MIN_VALUE, 7);
        Check.due("nor does the eighth of eight", y.count(3), 7);
    }

    private static void wrongLengths() {
        Check.sentence("BAD when n is not 1 .. 8");
        Counted x = new Counted();
        x.type('#', 1);
        for (int n : new int[] {0, -1, 9, 10, -8, 64, 256 + 1, MIN, MIN + 1, MAX}) {
            Check.due("type(35, " + n + ")", x.type(35L, n), TripleLines.BAD);
        }
        Check.due("the tape stays", x.count(3), 1);
        Check.due("1", x.type(35L, 1), 2);
        Check.due("8", x.type(35L, 8), 10);
        Check.put(x, "#".repeat(2990));
        Check.due("9 on a full tape", x.type(35L, 9), TripleLines.BAD);
        Check.due("0 on a full tape", x.type(35L, 0), TripleLines.BAD);
    }

    private static void typeIsFull() {
        Check.sentence("THE TAPE .. at most 3000 bytes; type: FULL (nothing comes)");
        for (int n = 1; n <= 8; n++) {
            Counted x = new Counted();
            Check.put(x, "#".repeat(3001 - n));
            Check.due(n + " bytes where " + (n - 1) + " have room", x.type(0L, n), TripleLines.FULL);
            Check.due("nothing came", x.count(3), 3001 - n);
            if (n > 1) {
                Check.due("as many as have room", x.type(0L, n - 1), 3000);
            }
            Check.due("one more", x.type(0L, 1), TripleLines.FULL);
            Check.due("the tape is read", x.read(), 0);
            Check.due("and has room again", x.type(0L, 8), 8);
        }
    }

    private static void passOfEmptyOut() {
        Check.sentence("What is in the out comes behind the tape: its length");
        Counted x = new Counted();
        Check.due("nothing behind nothing", x.pass(), 0);
        Check.put(x, "# <");
        Check.due("nothing behind three bytes", x.pass(), 3);
        Check.put(x, "#".repeat(2997));
        Check.due("nothing behind a full tape", x.pass(), 3000);
    }

    private static Counted withOutAndTape(int length) {
        Counted x = Check.having("<a> <b> <c> .");
        Check.due("print(0)", x.print(0), 14);
        Check.put(x, "#".repeat(length));
        return x;
    }

    private static void passIsFull() {
        Check.sentence("pass: FULL (nothing comes)");
        Counted x = withOutAndTape(2987);
        Check.due("14 bytes where 13 have room", x.pass(), TripleLines.FULL);
        Check.due("nothing came", x.count(3), 2987);
        Check.due("the out stays", Check.out(x), "<a> <b> <c> .\n");
        Counted y = withOutAndTape(2986);
        Check.due("14 bytes where 14 have room", y.pass(), 3000);
        Check.due("the out stays", Check.out(y), "<a> <b> <c> .\n");
        Check.due("once more", y.pass(), TripleLines.FULL);
        Check.due("the tape stays", y.read(), 0);
        Check.due("with its byte 10 at the end", y.line(), 2);
    }

    private static void passOfFullOut() {
        Check.sentence("THE TAPE and THE OUT have at most 3000 bytes each; pass");
        Counted x = PrintEdgesTest.withLines(3000);
        Check.due("print(0)", x.print(0), 3000);
        Check.due("3000 bytes behind none", x.pass(), 3000);
        Check.due("all are there", x.read(), 0);
        x.type(' ', 1);
        Check.due("3000 bytes behind one", x.pass(), TripleLines.FULL);
        Check.due("nothing came", x.count(3), 1);
    }

    private static Counted withThreeQuads() {
        return Check.having("<a> <b> <c> .\n<a> <b> \"l\"@en-1 _:g .\n_:h <b> \"\"^^<t> .");
    }

    private static void wrongQuads() {
        Check.sentence("quad: BAD: no such quad, which");
        Counted x = withThreeQuads();
        for (int i : new int[] {-1, -2, 3, 79, 80, 81, MIN, MAX, 1 << 30, MIN + 1}) {
            for (int which : new int[] {0, 3, 4, -1}) {
                Check.due("quad(" + i + ", " + which + ")", x.quad(i, which), TripleLines.BAD);
            }
        }
        for (int which : new int[] {-1, 4, 5, MIN, MAX, 1 << 30}) {
            Check.due("quad(0, " + which + ")", x.quad(0, which), TripleLines.BAD);
            Check.due("quad(2, " + which + ")", x.quad(2, which), TripleLines.BAD);
        }
        Check.due("the first one", Check.parts(x, 0), "0 1 2 -2");
        Check.due("the last one", Check.parts(x, 2), "5 1 7 -2");
    }

    private static void quadWithoutGraph() {
        Check.sentence("quad: NO: it has no graph");
        Counted x = withThreeQuads();
        Check.due("without graph", x.quad(0, 3), TripleLines.NO);
        Check.due("with a graph", x.quad(1, 3), 4);
        Check.due("no such quad goes before", x.quad(3, 3), TripleLines.BAD);
        Counted y = Check.having("<a> <a> <a> <a> .");
        Check.due("term 0 as a graph", y.quad(0, 3), 0);
    }

    private static void wrongTerms() {
        Check.sentence("term: BAD: no such term, what");
        Counted x = withThreeQuads();
        for (int t : new int[] {-1, -2, 8, 119, 120, 121, MIN, MAX, 1 << 30}) {
            for (int what = -1; what <= 5; what++) {
                Check.due("term(" + t + ", " + what + ")", x.term(t, what), TripleLines.BAD);
            }
        }
        for (int what : new int[] {-1, 5, 6, MIN, MAX}) {
            Check.due("term(0, " + what + ")", x.term(0, what), TripleLines.BAD);
            Check.due("term(7, " + what + ")", x.term(7, what), TripleLines.BAD);
        }
        Check.due("the last one", x.term(7, 0), 2);
    }

    private static void sortsOfTerms() {
        Check.sentence("its kind (0 node, 1 label, 2 literal); 1 a literal's sort (0 plain, 1 with a tag, 2 with a type; of others 0)");
        Counted x = Check.having("_:l <n> \"p\" .\n_:l <n> \"t\"@en .\n_:l <n> \"y\"^^<n> .");
        Check.due("a label", Check.facts(x, 0), "1 0 1 0 -2");
        Check.due("a node", Check.facts(x, 1), "0 0 1 0 -2");
        Check.due("a plain literal", Check.facts(x, 2), "2 0 1 0 -2");
        Check.due("a literal with a tag", Check.facts(x, 3), "2 1 1 2 -2");
        Check.due("a literal with a type", Check.facts(x, 4), "2 2 1 0 1");
    }

    private static void numbersOfCodes() {
        Check.sentence("2 how many codes (of a label its name's bytes)");
        Counted x = Check.having("<" + "n".repeat(40) + "> <n> \"\" .\n_:abcdefghijkl <n> \"" + "\\n".repeat(40) + "\" _:x .");
        int[] due = {40, 1, 0, 12, 40, 1};
        for (int t = 0; t < due.length; t++) {
            Check.due("term(" + t + ", 2)", x.term(t, 2), due[t]);
        }
    }

    private static void lettersOfTags() {
        Check.sentence("3 how many letters its tag has");
        Counted x = Check.having("_:a <b> \"\" .\n_:a <b> \"\"@A .\n_:a <b> \"\"@abcdefgh-1234567 .\n_:a <b> \"\"^^<b> .");
        int[] due = {0, 0, 0, 1, 16, 0};
        for (int t = 0; t < due.length; t++) {
            Check.due("term(" + t + ", 3)", x.term(t, 3), due[t]);
        }
    }

    private static void termWithoutType() {
        Check.sentence("4 its type's term. .. NO: it has no type");
        Counted x = Check.having("<t> <b> \"\"^^<t> .\n_:a <b> \"\" .\n<t> <b> \"\"@en .");
        int[] due = {-2, -2, 0, -2, -2, -2};
        for (int t = 0; t < due.length; t++) {
            Check.due("term(" + t + ", 4)", x.term(t, 4), due[t]);
        }
    }

    private static void wrongCodes() {
        Check.sentence("Code i of a term; BAD: there is none such");
        String forty = "x".repeat(39) + "y";
        Counted x = Check.having("<" + forty + "> <b> \"\" .\n_:abcdefghijkl <b> \"" + forty + "\"@en .");
        int[] lengths = {40, 1, 0, 12, 40};
        for (int t = 0; t < lengths.length; t++) {
            for (int i : new int[] {-1, lengths[t], lengths[t] + 1, 41, MIN, MAX, MIN + 40}) {
                Check.due("code(" + t + ", " + i + ")", x.code(t, i), TripleLines.BAD);
            }
        }
        for (int t : new int[] {-1, 5, 119, 120, MIN, MAX, 1 << 29}) {
            Check.due("code(" + t + ", 0)", x.code(t, 0), TripleLines.BAD);
        }
        Check.due("the first code of a node", x.code(0, 0), (int) 'x');
        Check.due("the last code of a node", x.code(0, 39), (int) 'y');
        Check.due("the last byte of a name", x.code(3, 11), (int) 'l');
        Check.due("the last code of a literal", x.code(4, 39), (int) 'y');
    }

    private static void finds() {
        Check.sentence("The number of the quad of these terms (g = -1: without graph)");
        Counted x = Check.having("<a> <b> <c> .\n<a> <b> <c> <a> .\n<a> <a> <a> <a> .\n<a> <a> <a> .");
        Check.due("without graph", x.find(0, 1, 2, -1), 0);
        Check.due("with a graph", x.find(0, 1, 2, 0), 1);
        Check.due("four times the same", x.find(0, 0, 0, 0), 2);
        Check.due("three times, without graph", x.find(0, 0, 0, -1), 3);
        x.drop(1);
        Check.due("those behind one that went", x.find(0, 0, 0, -1), 2);
    }

    private static void findsNone() {
        Check.sentence("find: NO: there is none");
        Counted x = withThreeQuads();
        for (int n : new int[] {-1, -2, -3, 3, 8, 119, 120, 121, MIN, MAX}) {
            Check.due("find(" + n + ", 1, 2, -1)", x.find(n, 1, 2, -1), TripleLines.NO);
            Check.due("find(0, " + n + ", 2, -1)", x.find(0, n, 2, -1), TripleLines.NO);
            Check.due("find(0, 1, " + n + ", -1)", x.find(0, 1, n, -1), TripleLines.NO);
            if (n != -1) {
                Check.due("find(0, 1, 2, " + n + ")", x.find(0, 1, 2, n), TripleLines.NO);
            }
        }
        Check.due("without the graph that it has", x.find(0, 1, 3, -1), TripleLines.NO);
        Check.due("NO is not -1 as a graph", x.find(0, 1, 2, TripleLines.NO), TripleLines.NO);
        Check.due("nothing but -1", x.find(-1, -1, -1, -1), TripleLines.NO);
        x.drop(2);
        Check.due("one that went", x.find(5, 1, 7, -1), TripleLines.NO);
    }

    private static void drops() {
        Check.sentence("A quad goes; those behind it are numbered one less: how many there are");
        Counted x = Check.having("<0> <1> <2> .\n<0> <1> <3> .\n<0> <1> <4> .\n<0> <1> <5> .");
        Check.due("one between", x.drop(1), 3);
        Check.due("the one before it", x.quad(0, 2), 2);
        Check.due("the one behind it", x.quad(1, 2), 4);
        Check.due("the last one", x.quad(2, 2), 5);
        Check.due("none behind it", x.quad(3, 2), TripleLines.BAD);
        Check.due("the last", x.drop(2), 2);
        Check.due("the first", x.drop(0), 1);
        Check.due("the one that is left", x.quad(0, 2), 4);
        Check.due("the only one", x.drop(0), 0);
        Check.due("none is left", x.quad(0, 2), TripleLines.BAD);
        Check.due("nothing to print", x.print(0), 0);
    }

    private static void wrongDrops() {
        Check.sentence("drop: BAD");
        Counted x = withThreeQuads();
        for (int i : new int[] {-1, 3, 4, 79, 80, MIN, MAX}) {
            Check.due("drop(" + i + ")", x.drop(i), TripleLines.BAD);
        }
        Check.due("quads", x.count(0), 3);
        Check.due("the last", x.drop(2), 2);
        Check.due("the last once more", x.drop(2), TripleLines.BAD);
    }

    private static void termsStayWithDrop() {
        Check.sentence("(Terms stay.)");
        Counted x = Check.having("<a> <b> \"c\"^^<d> _:e .");
        x.drop(0);
        Check.due("terms", x.count(1), 5);
        Check.due("a term", Check.facts(x, 3), "2 2 1 0 2");
        Check.due("its code", x.code(3, 0), (int) 'c');
        Check.due("read again", Check.read(x, "<a> <b> \"c\"^^<d> <d> ."), 1);
        Check.due("its parts", Check.parts(x, 0), "0 1 3 2");
    }

    private static void wrongCounts() {
        Check.sentence("count: BAD");
        Counted x = withThreeQuads();
        for (int what : new int[] {-1, 5, 6, -5, MIN, MAX}) {
            Check.due("count(" + what + ")", x.count(what), TripleLines.BAD);
        }
        x.print(0);
        x.type(0L, 2);
        int printed = "<a> <b> <c> .\n<a> <b> \"l\"@en-1 _:b4 .\n_:b5 <b> \"\"^^<t> .\n".length();
        Check.due("counts", Check.counts(x), "3 8 1 2 " + printed);
    }

    private static void readingsThatCount() {
        Check.sentence("readings that came to no fault and were not FULL (2)");
        Counted x = new Counted();
        x.read();
        Check.due("of an empty tape", x.count(2), 1);
        Check.read(x, "x");
        Check.due("with a fault", x.count(2), 1);
        StringBuilder lines = new StringBuilder();
        for (int i = 0; i < 30; i++) {
            lines.append("_:a").append(i).append("<b>_:c").append(i).append("<").append(i).append(">.\n");
        }
        Check.read(x, lines.toString());
        Check.due("with 91 terms", x.count(2), 2);
        Check.due("with 60 labels more", Check.read(x, lines.toString()), TripleLines.FULL);
        Check.due("with FULL", x.count(2), 2);
        Check.read(x, "<b><b><b>.");
        Check.due("then another", x.count(2), 3);
        Check.read(x, "<b><b><b>.");
        Check.due("without a new quad", x.count(2), 4);
        x.drop(0);
        Check.due("drop", x.count(2), 4);
    }

    private static String state(Counted x) {
        return Check.counts(x) + " line " + x.line() + " " + Check.parts(x, 2) + " " + Check.facts(x, 7) + " " + x.at(0);
    }

    private static void refusedCallsChangeNothing() {
        Check.sentence("Nothing is promised beyond the answers and state changes described above");
        Counted x = withThreeQuads();
        x.print(0);
        x.type('#', 1);
        String before = state(x);
        x.type(0L, 0);
        x.type(0L, 9);
        x.quad(3, 0);
        x.quad(0, 4);
        x.term(8, 0);
        x.term(0, 5);
        x.code(0, 1);
        x.find(-1, -1, -1, -1);
        x.drop(3);
        x.drop(-1);
        x.print(2);
        x.print(-1);
        x.at(-1);
        x.count(5);
        Check.due("the state after refused calls", state(x), before);
    }
}
