/** Promises 4 and 5: where the first fault of a tape is, and in which line. */
public final class FaultsTest {
    private static final String FORTY = "abcdefghijklmnopqrstuvwxyzABCDEFGHIJKLMN";
    private static final String AB = "<a> <b> ";

    private FaultsTest() {
    }

    public static void main(String[] args) {
        lines();
        statements();
        nodes();
        labels();
        literals();
        escapes();
        tags();
        types();
        faultLines();
        Check.end();
    }

    private static void read(String marked) {
        Check.marked(marked);
    }

    private static void lines() {
        read("");
        read("\n");
        read(" \t\r\n\r\n");
        read("#");
        read(" # <a \u0000\u00ff\"\\ # \r\n\n#");
        read("▸\u000b");
        read("▸\u000c");
        read("▸x");
        read(" ▸.");
        read("\n\n▸@");
        read("▸\u0000");
        read("▸\u00a0");
    }

    private static void statements() {
        read("<a><b><c>.");
        read("<a><b><c><d>.#");
        read("\t <a>\r<b>\t<c>   <d>  .  # x\n");
        read("_:a<b>_:c<d>.");
        read("_:a<b>_:c_▸:d.");
        read("<a> <b> \"c\"_:d.");
        read("<a> <b> \"c\"@en_:d.");
        read("<a> <b> \"c\"<d>.");
        read("<a>▸");
        read("<a> ▸");
        read("<a>▸\n");
        read("<a> ▸. ");
        read("<a> <b> ▸.");
        read("<a> <b>▸");
        read("<a> <b>▸\n<c> .");
        read("<a> <b> <c>▸");
        read("<a> <b> <c> ▸\n.");
        read("<a> <b> <c> ▸# .");
        read("<a> <b> <c> <d> ▸<e> .");
        read("<a> <b> <c> <d> ▸_:e .");
        read("<a> <b> <c> ▸\"d\" .");
        read("<a> <b> <c> <d>▸");
        read("<a> <b> <c> <d>▸\n.");
        read("<a> <b> <c> . ▸.");
        read("<a> <b> <c> .▸.");
        read("<a> <b> <c> . ▸<d>");
        read("<a> <b> <c> .\n<a> <b> ▸x");
        read("▸\"a\" <b> <c> .");
        read("<a> ▸_:b <c> .");
        read("<a> ▸\"b\" <c> .");
        read("▸a <b> <c> .");
        read("<a> ▸#");
    }

    private static void nodes() {
        read("<▸> <b> <c> .");
        read("<▸");
        read("<a▸");
        read("<a▸\n> <b> <c> .");
        read("<a▸ > <b> <c> .");
        for (char sign : "<\"{}|^`\u0000\t\r \u001f\u007f\u0080\u00e9\u00ff".toCharArray()) {
            read("<▸" + sign + "> <b> <c> .");
            read("<a> <b" + "▸" + sign + "> <c> .");
        }
        read("<!#$%&'()*+,-./:;=?@[]_~> <b> <0189AZaz> .");
        read("<" + FORTY + "> <" + FORTY + "> <" + FORTY + "> <" + FORTY + "> .");
        read("<" + FORTY + "▸x> <b> <c> .");
        read("<" + FORTY + "▸\\u0041> <b> <c> .");
        read("<" + FORTY + "▸ > <b> <c> .");
        read("<" + FORTY + "▸");
    }

    private static void labels() {
        read("_▸");
        read("_▸a <b> <c> .");
        read("_▸ :a <b> <c> .");
        read("_:▸");
        read("_:▸ <b> <c> .");
        read("_:▸-a <b> <c> .");
        read("_:▸.a <b> <c> .");
        read("_:▸. <b> <c> .");
        read("_:▸:a <b> <c> .");
        read("_:▸\u00e9 <b> <c> .");
        read("_:_ <b> _:0 .");
        read("_:a.b-c_d <b> _:Z9.- _:a...-.");
        read("<a> <b> _:Z9.-.▸. _:a .");
        read("_:a▸. <b> <c> .");
        read("<a> <b> _:c.");
        read("<a> <b> _:c.▸.");
        read("<a> <b> _:c. ▸x");
        read("<a> <b> _:c.x.");
        read("<a> <b> _:c.x▸");
        read("<a> <b> _:c-.");
        read("<a> <b> _:c-..-_▸:d.#");
        read("_:a▸:b <b> <c> .");
        read("<a> <b> _:c._▸:d .");
        read("_:abcdefghijkl <b> _:abcdefghijkl.");
        read("_:abcdefghijkl▸m <b> <c> .");
        read("_:abcdefghijkl▸. <b> <c> .");
        read("<a> <b> _:abcdefghijkl▸.m .");
        read("<a> <b> _:abcdefghijkl▸..m .");
        read("<a> <b> _:abcdefghijk.▸.m .");
        read("<a> <b> _:abcdefghij.m .");
        read("<a> <b> _:abcdefghijk.▸m .");
        read("<a> <b> _:abcdefghijkl.▸.");
        read("<a> <b> _:abcdefghijkl. # .m");
        read("<a> <b> _:abcdefghijkl▸-.");
        read("<a> <b> <c> _:abcdefghijkl▸_.");
    }

    private static void literals() {
        read(AB + "\"\" .");
        read(AB + "\"\t !#[]~' <>{}|^`\" .");
        read(AB + "\"" + FORTY + "\".");
        read(AB + "\"" + FORTY + "▸x\" .");
        read(AB + "\"" + FORTY + "▸\\n\" .");
        read(AB + "\"" + FORTY + "▸\n\" .");
        read(AB + "\"▸");
        read(AB + "\"c▸");
        for (char sign : "\u0000\b\n\u000b\f\r\u001f\u007f\u0080\u00ff".toCharArray()) {
            read(AB + "\"c▸" + sign + "\" .");
        }
        read(AB + "\"c\"▸\"d\" .");
        read(AB + "\"c\" ▸@en .");
        read(AB + "\"c\" ▸^^<d> .");
        read(AB + "\"c\"▸e .");
    }

    private static void escapes() {
        read(AB + "\"\\t\\b\\n\\r\\f\\\"\\'\\\\\" .");
        read(AB + "\"\\u0000\\uFFFF\\uffff\\U0010FFFF\\U0010ffff\\uD7FF\\uE000\\U0000d7ff\" .");
        for (String wrong : new String[] {"\\a", "\\T", "\\ ", "\\x", "\\0", "\\\n", "\\>", "\\u", "\\u1", "\\u123",
            "\\u123g", "\\u 123", "\\u-123", "\\U", "\\U0001F60", "\\U0001F60g", "\\U00110000", "\\UFFFFFFFF",
            "\\U80000041", "\\UFFFF0041", "\\uD800", "\\udfff", "\\U0000D800", "\\U0000dfff", "\\U0000DBFF"}) {
            read(AB + "\"c▸" + wrong + "\" .");
            read("<a▸" + wrong + "> <b> <c> .");
            read(AB + "\"c\"^^<d▸" + wrong + "> .");
        }
        for (String sign : new String[] {"\\t", "\\b", "\\n", "\\r", "\\f", "\\\"", "\\'", "\\\\"}) {
            read("<a▸" + sign + "> <b> <c> .");
            read(AB + "\"c" + sign + "\" .");
        }
        for (int code : new int[] {0, 9, 10, 31, 32, '<', '>', '"', '{', '}', '|', '^', '`', '\\'}) {
            read("<▸" + String.format("\\u%04x", code) + "> <b> <c> .");
            read("<a> <b> <c▸" + String.format("\\U%08X", code) + "> .");
            read(AB + String.format("\"\\u%04X\\U%08x\" .", code, code));
        }
        read("<\\u0021\\u0041\\u007E\\u007F\\u00A0\\U0010FFFF\\u0027\\u003d> <b> <c> .");
        for (String cut : new String[] {"\\", "\\u", "\\u0", "\\u004", "\\U", "\\U0000004"}) {
            read("<a▸" + cut);
            read(AB + "\"c▸" + cut);
            read(AB + "\"c\"^^<▸" + cut);
        }
        read("<a\\u0041▸");
        read(AB + "\"\\u0041▸");
        read(AB + "\"\\n▸");
        read("<a> ▸\\u003Cb> <c> .");
        read("_:a▸\\u0041 <b> <c> .");
        read(AB + "\"c\"@e▸\\u006E .");
        read("▸\\");
    }

    private static void tags() {
        read(AB + "\"c\"@e .");
        read(AB + "\"c\"@en-GB-x1-9.");
        read(AB + "\"c\"@abcdefgh-1234567.");
        read(AB + "\"c\"@a-b-c-d-e-f-g-h .");
        read(AB + "\"c\"@▸");
        read(AB + "\"c\"@▸ en .");
        read(AB + "\"c\"@▸1 .");
        read(AB + "\"c\"@▸-en .");
        read(AB + "\"c\"@▸. ");
        read(AB + "\"c\"@en-▸");
        read(AB + "\"c\"@en-▸ .");
        read(AB + "\"c\"@en-▸-gb .");
        read(AB + "\"c\"@en-gb-▸.");
        read(AB + "\"c\"@en▸1 .");
        read(AB + "\"c\"@en▸@fr .");
        read(AB + "\"c\"@en▸^^<d> .");
        read(AB + "\"c\"@en▸\"d\" .");
        read(AB + "\"c\"@en_▸x .");
        read(AB + "\"c\"@abcdefgh .");
        read(AB + "\"c\"@abcdefgh▸i .");
        read(AB + "\"c\"@abcdefgh▸1 .");
        read(AB + "\"c\"@a-12345678.");
        read(AB + "\"c\"@a-12345678▸9 .");
        read(AB + "\"c\"@a-12345678▸x .");
        read(AB + "\"c\"@abcdefgh-1234567▸8 .");
        read(AB + "\"c\"@abcdefgh-1234567▸-8 .");
        read(AB + "\"c\"@abcdefgh-123456-▸8 .");
        read(AB + "\"c\"@abcdefgh-123456-▸ .");
        read(AB + "\"c\"@a-b-c-d-e-f-g-hi .");
        read(AB + "\"c\"@a-b-c-d-e-f-g-hi▸j .");
        read(AB + "\"c\"@a-b-c-d-e-f-g-h-▸i .");
        read(AB + "\"c\"@a-b-c-d-e-f-g-hi▸-j .");
        read(AB + "\"c\"@en▸");
        read(AB + "\"c\"@en ▸");
    }

    private static void types() {
        read(AB + "\"c\"^^<d>.");
        read(AB + "\"c\"^^<d><e>.");
        read(AB + "\"c\"^^<" + FORTY + "> .");
        read(AB + "\"c\"^▸");
        read(AB + "\"c\"^▸<d> .");
        read(AB + "\"c\"^▸ ^<d> .");
        read(AB + "\"c\"^^▸");
        read(AB + "\"c\"^^▸ <d> .");
        read(AB + "\"c\"^^▸_:d .");
        read(AB + "\"c\"^^▸\"d\" .");
        read(AB + "\"c\"^^<▸> .");
        read(AB + "\"c\"^^<▸");
        read(AB + "\"c\"^^<" + FORTY + "▸x> .");
        read(AB + "\"c\"^^<d>▸@en .");
        read(AB + "\"c\"^^<d>▸^^<e> .");
    }

    private static void line(String tape, int line) {
        Counted x = new Counted();
        Check.read(x, tape);
        Check.due("line() after " + Check.shown(tape), x.line(), line);
    }

    private static void faultLines() {
        line("", 1);
        line("\n", 2);
        line("\n\n", 3);
        line("<a> <b> <c> .", 1);
        line("<a> <b> <c> .\n", 2);
        line("#\n\n#\n<a> <b> <c> . #", 4);
        line("x", 0);
        line("<a>\n", 0);
        line("\nx\n\n", 1);
        line("\n\n<a> <b> \"c\n\"", 2);
        line("\n\n<a> <b>", 2);
        line("\n\n<a> <b>\n", 2);
        line("\n\\\n", 1);
        Counted x = new Counted();
        Check.read(x, "\n\nx");
        Check.put(x, "\n\n\n");
        x.print(0);
        Check.due("line() stays until the next read()", x.line(), 2);
        x.read();
        Check.due("line() is of the latest read()", x.line(), 4);
    }
}
