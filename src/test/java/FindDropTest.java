/** Promises 9 and 10: find and drop. */
public final class FindDropTest {
    private FindDropTest() {
    }

    public static void main(String[] args) {
        finds();
        drops();
        dropsAll();
        Check.end();
    }

    private static Counted withQuads() {
        Counted x = new Counted();
        Check.read(x, "<a> <b> <c> .\n<a> <b> <c> <d> .\n<c> <b> <a> .\n<a> <b> \"c\"@en _:g .");
        return x;
    }

    private static void finds() {
        Counted x = withQuads();
        Check.due("without graph", x.find(0, 1, 2, -1), 0);
        Check.due("with graph", x.find(0, 1, 2, 3), 1);
        Check.due("turned round", x.find(2, 1, 0, -1), 2);
        Check.due("a literal", x.find(0, 1, 4, 5), 3);
        int[] none = {Integer.MIN_VALUE, -3, -2, 0, 4, 6, 120, Integer.MAX_VALUE};
        for (int n : none) {
            Check.due("graph " + n, x.find(0, 1, 2, n), TripleLines.NO);
            Check.due("predicate " + n, x.find(0, n, 2, -1), TripleLines.NO);
        }
        Check.due("subject -1", x.find(-1, 1, 2, -1), TripleLines.NO);
        Check.due("object -1", x.find(0, 1, -1, -1), TripleLines.NO);
        Check.due("all -1", x.find(-1, -1, -1, -1), TripleLines.NO);
        Check.due("a graph that another one has", x.find(2, 1, 0, 3), TripleLines.NO);
    }

    private static void drops() {
        Counted x = withQuads();
        int[] wrong = {Integer.MIN_VALUE, -1, 4, 80, Integer.MAX_VALUE};
        for (int i : wrong) {
            Check.due("drop(" + i + ")", x.drop(i), TripleLines.BAD);
        }
        Check.due("quads after wrong ones", x.count(0), 4);
        Check.due("drop one in the middle", x.drop(1), 3);
        Check.due("it is gone", x.find(0, 1, 2, 3), TripleLines.NO);
        Check.due("the one before it", Check.parts(x, 0), "0 1 2 -2");
        Check.due("the one behind it", Check.parts(x, 1), "2 1 0 -2");
        Check.due("the last one", x.find(0, 1, 4, 5), 2);
        Check.due("behind the last one", x.quad(3, 0), TripleLines.BAD);
        Check.due("terms stay", x.count(1), 6);
        Check.due("a term of no quad stays", Check.codes(x, 3), "d");
        Check.due("drop the last", x.drop(2), 2);
        Check.due("drop the first", x.drop(0), 1);
        Check.due("what is left", Check.printed(x, 0), "<c> <b> <a> .\n");
        Check.due("readings stay", x.count(2), 1);
    }

    private static void dropsAll() {
        Counted x = new Counted();
        StringBuilder lines = new StringBuilder();
        for (int i = 0; i < 80; i++) {
            lines.append("<a> <b> <").append(i).append("> .\n");
        }
        Check.read(x, lines.toString());
        for (int left = 79; left >= 0; left--) {
            Check.due("drop(0)", x.drop(0), left);
            Check.due("the first one", x.quad(0, 2), left == 0 ? TripleLines.BAD : 82 - left);
        }
        Check.due("none is left", x.drop(0), TripleLines.BAD);
        Check.due("terms", x.count(1), 82);
        Check.due("all come again", Check.read(x, lines.toString()), 80);
    }
}
