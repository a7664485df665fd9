/** Promises 1, 2, 3 and 13: a new object, type, pass and count. */
public final class TapeTest {
    private TapeTest() {
    }

    public static void main(String[] args) {
        newObject();
        typesHighestByteFirst();
        refusesWrongLengths();
        tapeIsFull();
        passes();
        passIsFull();
        counts();
        Check.end();
    }

    private static void newObject() {
        Counted x = new Counted();
        for (int what = 0; what < 5; what++) {
            Check.due("count(" + what + ") of a new one", x.count(what), 0);
        }
        Check.due("line() of a new one", x.line(), 0);
        Check.due("at(0) of a new one", x.at(0), TripleLines.BAD);
        Check.due("quad(0, 0) of a new one", x.quad(0, 0), TripleLines.BAD);
        Check.due("term(0, 0) of a new one", x.term(0, 0), TripleLines.BAD);
        Check.due("code(0, 0) of a new one", x.code(0, 0), TripleLines.BAD);
        Check.due("find of a new one", x.find(0, 0, 0, -1), TripleLines.NO);
        Check.due("drop(0) of a new one", x.drop(0), TripleLines.BAD);
        Check.due("BAD", TripleLines.BAD, -1);
        Check.due("NO", TripleLines.NO, -2);
        Check.due("FULL", TripleLines.FULL, -3);
    }

    private static void typesHighestByteFirst() {
        Counted x = new Counted();
        Check.due("type 1", x.type('<', 1), 1);
        Check.due("type the lowest three", x.type(0x7777777777613e20L, 3), 4);
        Check.due("type eight", x.type(0x3c623e203c633e2eL, 8), 12);
        Check.due("read what was typed", x.read(), 1);
        Check.due("print what was typed", Check.printed(x, 0), "<a> <b> <c> .\n");
        x.type(-1L, 8);
        Check.due("a byte 255 is no sign of a statement", x.read(), -10);
        x.type(0x23ffL, 2);
        Check.due("a byte 255 may stand behind #", x.read(), 0);
    }

    private static void refusesWrongLengths() {
        Counted x = new Counted();
        int[] wrong = {0, -1, 9, 64, Integer.MIN_VALUE, Integer.MAX_VALUE};
        for (int n : wrong) {
            Check.due("type(.., " + n + ")", x.type(35L, n), TripleLines.BAD);
        }
        Check.due("bytes after wrong lengths", x.count(3), 0);
    }

    private static Counted withTape(int length) {
        Counted x = new Counted();
        Check.put(x, "#".repeat(length));
        Check.due("bytes on the tape", x.count(3), length);
        return x;
    }

    private static void tapeIsFull() {
        Counted x = withTape(2996);
        Check.due("five where four have room", x.type(0L, 5), TripleLines.FULL);
        Check.due("nothing came", x.count(3), 2996);
        Check.due("nine go before full", x.type(0L, 9), TripleLines.BAD);
        Check.due("four where four have room", x.type(0L, 4), 3000);
        Check.due("one more", x.type(0L, 1), TripleLines.FULL);
        Check.due("none where none has room", x.type(0L, 0), TripleLines.BAD);
        Check.due("an empty out has room", x.pass(), 3000);
        Check.due("a tape of 3000 bytes is read", x.read(), 0);
        Check.due("the tape is empty then", x.count(3), 0);
    }

    private static void passes() {
        Counted x = new Counted();
        Check.due("pass an empty out", x.pass(), 0);
        Check.read(x, "<a> <b> <c> .");
        x.print(0);
        Check.put(x, "# ");
        Check.due("pass behind what is typed", x.pass(), 16);
        Check.due("pass again", x.pass(), 30);
        Check.due("the out stays", Check.out(x), "<a> <b> <c> .\n");
        Check.due("the first one stood behind #", x.read(), 0);
        Check.due("lines", x.line(), 3);
    }

    private static Counted withOutAndTape(int length) {
        Counted x = new Counted();
        Check.read(x, "<a> <b> <c> .");
        x.print(0);
        Check.put(x, "#".repeat(length));
        return x;
    }

    private static void passIsFull() {
        Counted x = withOutAndTape(2987);
        Check.due("fourteen where thirteen have room", x.pass(), TripleLines.FULL);
        Check.due("nothing came", x.count(3), 2987);
        Counted y = withOutAndTape(2986);
        Check.due("fourteen where fourteen have room", y.pass(), 3000);
    }

    private static void counts() {
        Counted x = new Counted();
        Check.read(x, "<a> <b> <c> .\n<a> <b> _:d .");
        Check.put(x, "<z");
        x.print(0);
        Check.due("quads", x.count(0), 2);
        Check.due("terms", x.count(1), 4);
        Check.due("readings", x.count(2), 1);
        Check.due("bytes on the tape", x.count(3), 2);
        Check.due("bytes in the out", x.count(4), 29);
        x.read();
        Check.due("a reading with a fault is not counted", x.count(2), 1);
        Check.due("nor does it leave a tape", x.count(3), 0);
        x.read();
        Check.due("a reading of an empty tape is counted", x.count(2), 2);
        int[] wrong = {-1, 5, 6, Integer.MIN_VALUE, Integer.MAX_VALUE};
        for (int what : wrong) {
            Check.due("count(" + what + ")", x.count(what), TripleLines.BAD);
        }
    }
}
