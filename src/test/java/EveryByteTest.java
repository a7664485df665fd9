/**
 * Promises 4 and 5: each of the 256 bytes once at each place of some tapes, instead of the byte
 * there and before it, and each beginning and end of these tapes, against the model.
 */
public final class EveryByteTest {
    private static final String[] TAPES = {
        "<a> <b> <c> .\n",
        " _:x\t<p\\u00e9>\"t\\n\\U0001F600\"@en-GB-1 <g>. # c\n_:y.z<p>\"\"^^<t>_:g.",
        "<a><b>_:abcdefghijkl.\n\r\n#\n<a><b>\"1\"@abcdefgh-1234567.",
        "<1234567890123456789012345678901234567890><b>\"123456789012345678901234567890123456789\\t\".",
        "_:a..b-_ <q> _:c.d..e _:0.. ",
    };

    private EveryByteTest() {
    }

    public static void main(String[] args) {
        for (String tape : TAPES) {
            for (int place = 0; place <= tape.length(); place++) {
                changeAt(place, tape);
            }
        }
        Check.end();
    }

    private static void changeAt(int place, String tape) {
        String before = tape.substring(0, place);
        String from = tape.substring(place);
        String behind = tape.substring(Math.min(place + 1, tape.length()));
        agree(before);
        agree(from);
        agree(before + behind);
        for (char sign = 0; sign < 256; sign++) {
            agree(before + sign + from);
            agree(before + sign + behind);
        }
    }

    private static void agree(String tape) {
        Counted x = new Counted();
        Model model = new Model();
        model.tape = tape;
        String call = "read() of " + Check.shown(tape);
        Check.due(call, Check.read(x, tape), model.read());
        Check.due("line() after " + call, x.line(), model.line());
        model.print(0);
        Check.due("print(0) after " + call, Check.printed(x, 0), model.out);
    }
}
