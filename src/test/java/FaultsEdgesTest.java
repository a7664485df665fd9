/** The document's sentence on faults: each of its parts by itself, and the place of the fault. */
public final class FaultsEdgesTest {
    private static final String FORTY = "abcdefghijklmnopqrstuvwxyzABCDEFGHIJKLMN";
    private static final String AB = "<a> <b> ";

    private FaultsEdgesTest() {
    }

    public static void main(String[] args) {
        firstOnTheTape();
        atItsFirstByte();
        tapeEndsTooEarly();
        backslashes();
        tapeEndsWithinEscape();
        fortyFirstCode();
        thirteenthByte();
        ninthOfPart();
        seventeenthOfTag();
        nodeWithoutCodes();
        nameWithoutBytes();
        tagWithoutBytes();
        tagEndsBehindDash();
        Check.end();
    }

    private static void firstOnTheTape() {
        Check.sentence("FAULTS, the first one on the tape");
        Check.marked("▸x\nx\nx");
        Check.marked("\n<a> <b> ▸x\n<a> <> <c> .\n");
        Check.marked("<a▸ > <> \"\\x\" .");
        Check.marked("<a> <▸> <c ");
        Check.marked(AB + "\"▸\\x\\y");
        Check.marked(AB + "\"▸\\uD800\n");
        Check.marked("_:abcdefghijkl▸mnopq\u00ff");
        Check.marked(AB + "\"c\"@abcdefgh▸i-");
    }

    private static void atItsFirstByte() {
        Check.sentence("something that can't come where it does: at its first byte");
        Check.marked("▸.");
        Check.marked("<a>   ▸\"b\"@en <c> .");
        Check.marked("<a> ▸_:b <c> .");
        Check.marked("<a> <b> <c> ▸\"d\"^^<e> .");
        Check.marked("<a> <b> <c> <d> ▸_:e .");
        Check.marked("<a> <b> <c> . ▸<d> <e> <f> .");
        Check.marked("<a> <b> \"c\" ▸@en .");
        Check.marked("<a> <b> \"c\" ▸^^<d> .");
        Check.marked("<a> <b> \"c\"^▸<d> .");
        Check.marked("_▸a <b> <c> .");
        Check.marked("_:a▸:b <c> <d> .");
        Check.marked("<a> <b> <c>▸\n");
        Check.marked("<a> <b> <c> ▸# .");
    }

    /** Cuts a statement everywhere: within an escape the fault is at its \, and elsewhere at the end. */
    private static void tapeEndsTooEarly() {
        Check.sentence("the tape's length, when it ends too early");
        String tape = "_:a.b <\\u00E9> \"c\\n\\U0001F600\"^^<d> _:g .";
        for (int end = 1; end < tape.length(); end++) {
            String start = tape.substring(0, end);
            int slash = start.lastIndexOf('\\');
            int size = slash < 0 ? 0 : tape.charAt(slash + 1) == 'u' ? 6 : tape.charAt(slash + 1) == 'U' ? 10 : 2;
            boolean within = slash >= 0 && end < slash + size;
            int place = within ? slash : end;
            boolean dot = start.equals("_:a.");
            Check.marked(dot ? "_:a▸." : start.substring(0, place) + "▸" + start.substring(place));
        }
        for (String early : new String[] {"_", "_:", "<", "<a", AB + "\"", AB + "\"c\"@", AB + "\"c\"@e", AB + "\"c\"@e-",
            AB + "\"c\"^", AB + "\"c\"^^", AB + "\"c\"^^<", AB + "_:c", AB + "<c> <d> "}) {
            Check.marked(early + "▸");
        }
        Counted x = new Counted();
        Check.due("a tape of 3000 bytes that ends too early", Check.read(x, " ".repeat(2997) + "<a>"), -3010);
    }

    private static void backslashes() {
        Check.sentence("a \\ that begins no escape (or sign) that may be: at it");
        for (String wrong : new String[] {"\\a", "\\x0041", "\\ ", "\\\n", "\\u", "\\u12", "\\u123g", "\\u 123", "\\U1234567",
            "\\U0000004g", "\\uD800", "\\uDFFF", "\\U0000D800", "\\U0000DFFF", "\\U00110000", "\\UFFFFFFFF", "\\u+041"}) {
            Check.marked(AB + "\"c▸" + wrong + "\" .");
            Check.marked("<c▸" + wrong + "> <b> <c> .");
            Check.marked(AB + "\"c\"^^<d▸" + wrong + "> .");
        }
        for (String sign : new String[] {"\\t", "\\b", "\\n", "\\r", "\\f", "\\\"", "\\'", "\\\\", "\\u0020", "\\u003E"}) {
            Check.marked("<c▸" + sign + "> <b> <c> .");
            Check.marked(AB + "\"c" + sign + "\" .");
        }
        Check.marked("▸\\u003Ca> <b> <c> .");
        Check.marked("_:a▸\\u0041 <b> <c> .");
        Check.marked(AB + "\"c\"@e▸\\u006E .");
    }

    private static void tapeEndsWithinEscape() {
        Check.sentence("also when the tape ends within it");
        for (String escape : new String[] {"\\u0041", "\\U0010FFFF", "\\n"}) {
            for (int end = 1; end < escape.length(); end++) {
                String cut = escape.substring(0, end);
                Check.marked(AB + "\"▸" + cut);
                Check.marked(AB + "\"cd▸" + cut);
                Check.marked(AB + "\"c\"^^<▸" + cut);
                Check.marked("<a▸" + cut);
            }
            Check.marked(AB + "\"" + escape + "▸");
        }
    }

    private static void fortyFirstCode() {
        Check.sentence("a 41st code: at its first byte");
        for (String code : new String[] {"x", "\\u0041", "\\U00000041", "\\n", " ", "\n", "\\"}) {
            Check.marked("<" + FORTY + "▸" + code + "> <b> <c> .");
            Check.marked(AB + "\"" + FORTY + "▸" + code + "\" .");
            Check.marked(AB + "\"\"^^<" + FORTY + "▸" + code + "> .");
        }
        Check.marked(AB + "\"" + "\\U00000041".repeat(40) + "▸\\U00000041\" .");
        Check.marked(AB + "\"" + "\\n".repeat(40) + "\" .");
        Check.marked("<" + FORTY + "> <" + FORTY + "> \"" + FORTY + "\"^^<" + FORTY + "> .");
    }

    private static void thirteenthByte() {
        Check.sentence("a 13th byte of a name: at its first byte");
        for (char sign : "mZ09_-".toCharArray()) {
            Check.marked("_:abcdefghijkl▸" + sign + " <b> <c> .");
            Check.marked(AB + "_:abcdefghijkl▸" + sign + ".");
            Check.marked(AB + "<c> _:abcdefghijkl▸" + sign + " .");
        }
        Check.marked(AB + "_:abcdefghijk.▸m .");
        Check.marked(AB + "_:abcdefghijkl▸.m .");
        Check.marked(AB + "_:abcdefghijkl.");
        Check.marked(AB + "_:abcdefghijkl.▸.");
        Check.marked(AB + "_:abcdefghijkl .");
    }

    private static void ninthOfPart() {
        Check.sentence("a 9th of a tag's part: at its first byte");
        Check.marked(AB + "\"c\"@abcdefgh▸i .");
        Check.marked(AB + "\"c\"@abcdefgh▸Ijklmnopq .");
        Check.marked(AB + "\"c\"@a-12345678▸9 .");
        Check.marked(AB + "\"c\"@a-b-abcdefgh▸i .");
        Check.marked(AB + "\"c\"@abcdefgh .");
        Check.marked(AB + "\"c\"@a-12345678 .");
        Check.marked(AB + "\"c\"@a-b-abcdefgh.");
    }

    private static void seventeenthOfTag() {
        Check.sentence("a 17th of a tag: at its first byte");
        Check.marked(AB + "\"c\"@abcdefgh-1234567▸8 .");
        Check.marked(AB + "\"c\"@abcdefgh-1234567▸-8 .");
        Check.marked(AB + "\"c\"@abcdefgh-123456-▸8 .");
        Check.marked(AB + "\"c\"@a-b-c-d-e-f-g-h-▸i .");
        Check.marked(AB + "\"c\"@abcdefgh-1234567 .");
        Check.marked(AB + "\"c\"@abcdefgh-12345-7.");
    }

    private static void nodeWithoutCodes() {
        Check.sentence("a node without codes: at its >");
        Check.marked("<▸> <b> <c> .");
        Check.marked("<a> <▸> <c> .");
        Check.marked("<a> <b> <▸> .");
        Check.marked("<a> <b> <c> <▸> .");
        Check.marked("<a> <b> \"c\"^^<▸> .");
    }

    private static void nameWithoutBytes() {
        Check.sentence("a name without bytes: at the byte behind");
        Check.marked("_:▸ <b> <c> .");
        Check.marked("_:▸<b> <c> .");
        Check.marked("_:▸-a <b> <c> .");
        Check.marked("_:▸.a <b> <c> .");
        Check.marked(AB + "_:▸.");
        Check.marked(AB + "<c> _:▸ .");
        Check.marked(AB + "_:▸");
    }

    private static void tagWithoutBytes() {
        Check.sentence("a tag without bytes: at the byte behind");
        Check.marked(AB + "\"c\"@▸ .");
        Check.marked(AB + "\"c\"@▸.");
        Check.marked(AB + "\"c\"@▸-en .");
        Check.marked(AB + "\"c\"@▸1 .");
        Check.marked(AB + "\"c\"@▸");
    }

    private static void tagEndsBehindDash() {
        Check.sentence("or one that ends behind a - : at the byte behind");
        Check.marked(AB + "\"c\"@en-▸ .");
        Check.marked(AB + "\"c\"@en-▸.");
        Check.marked(AB + "\"c\"@en-▸-gb .");
        Check.marked(AB + "\"c\"@en-gb-▸_:d .");
        Check.marked(AB + "\"c\"@abcdefgh-123456-▸ .");
        Check.marked(AB + "\"c\"@en-▸");
    }
}
