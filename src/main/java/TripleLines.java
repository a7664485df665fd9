/**
 * Lines of triples and quads: typed on a tape, read into numbered terms and quads,
 * and printed in one form.
 */
public final class TripleLines {
    public static final int BAD = -1;
    public static final int NO = -2;
    public static final int FULL = -3;

    private static final int MAX_BYTES = 3000;
    private static final int MAX_CODES = 40;
    private static final int MAX_NAME = 12;
    private static final int MAX_TAG = 16;
    private static final int MAX_TAG_PART = 8;
    private static final int MAX_TERMS = 120;
    private static final int MAX_QUADS = 80;
    private static final int MAX_CODE = 1114111;

    private static final int NODE = 0;
    private static final int LABEL = 1;
    private static final int LITERAL = 2;

    private static final int PARTS = 4;
    private static final int GRAPH = 3;

    private static final int NONE = -1;
    private static final int LINE_END = 10;
    private static final int FAULT_AT_START = -10;

    private final Row tape;
    private final Row out;
    private final Terms terms;
    private final Quads quads;
    private final Reader reader;
    private final Printer printer;
    private int lines;
    private int readings;

    public TripleLines() {
        tape = new Row(MAX_BYTES);
        out = new Row(MAX_BYTES);
        terms = new Terms();
        quads = new Quads();
        reader = new Reader(tape, terms, quads);
        printer = new Printer(terms, quads);
        lines = 0;
        readings = 0;
    }

    public int type(long bytes, int n) {
        if (n < 1 || n > 8) {
            return BAD;
        }
        if (n > tape.room()) {
            return FULL;
        }
        for (int i = n - 1; i >= 0; i--) {
            tape.add((int) (bytes >>> (8 * i)) & 255);
        }
        return tape.length;
    }

    public int pass() {
        if (out.length > tape.room()) {
            return FULL;
        }
        for (int i = 0; i < out.length; i++) {
            tape.add(out.get(i));
        }
        return tape.length;
    }

    public int read() {
        int termsBefore = terms.size;
        int quadsBefore = quads.size;
        reader.begin();
        boolean more = true;
        for (int n = 0; n <= MAX_BYTES && more; n++) {
            if (reader.comesToStatement()) {
                reader.readStatement();
            }
            more = reader.endLine();
        }
        int fault = reader.fault;
        lines = fault == NONE ? tape.lineEndsBefore(tape.length) + 1 : tape.lineEndsBefore(fault);
        tape.clear();
        if (fault == NONE && !terms.full && !quads.full) {
            readings++;
            return quads.size - quadsBefore;
        }
        terms.cutTo(termsBefore);
        quads.cutTo(quadsBefore);
        return fault == NONE ? FULL : FAULT_AT_START - fault;
    }

    public int line() {
        return lines;
    }

    public int quad(int i, int which) {
        if (!quads.has(i) || which < 0 || which >= PARTS) {
            return BAD;
        }
        int part = quads.part(i, which);
        return part == NONE ? NO : part;
    }

    public int term(int t, int what) {
        if (!terms.has(t)) {
            return BAD;
        }
        switch (what) {
            case 0:
                return terms.kinds[t];
            case 1:
                return terms.sortOf(t);
            case 2:
                return terms.lengths[t];
            case 3:
                return terms.tagLengths[t];
            case 4:
                return terms.types[t] == NONE ? NO : terms.types[t];
            default:
                return BAD;
        }
    }

    public int code(int t, int i) {
        int code = terms.codeAt(t, i);
        return code == NONE ? BAD : code;
    }

    public int find(int s, int p, int o, int g) {
        int i = quads.indexOf(s, p, o, g);
        return i == NONE ? NO : i;
    }

    public int drop(int i) {
        if (!quads.has(i)) {
            return BAD;
        }
        quads.remove(i);
        return quads.size;
    }

    public int print(int form) {
        if (form != 0 && form != 1) {
            return BAD;
        }
        if (!printer.fillLines()) {
            return FULL;
        }
        if (form == 1) {
            printer.sortLines();
        }
        printer.copyLines(out);
        return out.length;
    }

    public int at(int i) {
        int found = out.get(i);
        return found == NONE ? BAD : found;
    }

    public int count(int what) {
        switch (what) {
            case 0:
                return quads.size;
            case 1:
                return terms.size;
            case 2:
                return readings;
            case 3:
                return tape.length;
            case 4:
                return out.length;
            default:
                return BAD;
        }
    }

    /** A row of numbers, none below 0, that is made once and filled again and again. */
    private static final class Row {
        final int[] items;
        int length;
        boolean spilled;

        Row(int limit) {
            items = new int[Math.max(0, limit)];
            length = 0;
            spilled = false;
        }

        int room() {
            return items.length - length;
        }

        void clear() {
            length = 0;
            spilled = false;
        }

        void add(int item) {
            if (length >= 0 && length < items.length) {
                items[length] = item;
                length++;
            } else {
                spilled = true;
            }
        }

        int get(int i) {
            return i >= 0 && i < length && i < items.length ? items[i] : NONE;
        }

        int lineEndsBefore(int end) {
            int ends = 0;
            for (int i = 0; i < end && i < length; i++) {
                if (get(i) == LINE_END) {
                    ends++;
                }
            }
            return ends;
        }
    }

    /** The terms, in columns: a term's texts have their own stretch of the two long rows. */
    private static final class Terms {
        final int[] kinds;
        final int[] lengths;
        final int[] codes;
        final int[] tagLengths;
        final int[] tags;
        final int[] types;
        int size;
        int firstOfReading;
        boolean full;

        Terms() {
            kinds = new int[MAX_TERMS];
            lengths = new int[MAX_TERMS];
            codes = new int[MAX_TERMS * MAX_CODES];
            tagLengths = new int[MAX_TERMS];
            tags = new int[MAX_TERMS * MAX_TAG];
            types = new int[MAX_TERMS];
            size = 0;
            firstOfReading = 0;
            full = false;
        }

        void beginReading() {
            firstOfReading = size;
            full = false;
        }

        void cutTo(int newSize) {
            if (newSize >= 0 && newSize < size) {
                size = newSize;
            }
        }

        boolean has(int t) {
            return t >= 0 && t < size && t < MAX_TERMS;
        }

        int sortOf(int t) {
            if (!has(t)) {
                return 0;
            }
            if (types[t] != NONE) {
                return 2;
            }
            return tagLengths[t] > 0 ? 1 : 0;
        }

        int codeAt(int t, int i) {
            return has(t) && i >= 0 && i < lengths[t] && i < MAX_CODES ? codes[t * MAX_CODES + i] : NONE;
        }

        int tagAt(int t, int i) {
            return has(t) && i >= 0 && i < tagLengths[t] && i < MAX_TAG ? tags[t * MAX_TAG + i] : NONE;
        }

        /**
         * The number of the term that is like this one; it is added when there is none.
         * What follows a term without room goes with the reading, which is full then.
         */
        int numberOf(int kind, Row text, Row tag, int type) {
            int first = kind == LABEL ? firstOfReading : 0;
            for (int t = first; t < size; t++) {
                if (isLike(t, kind, text, tag, type)) {
                    return t;
                }
            }
            return add(kind, text, tag, type);
        }

        private boolean isLike(int t, int kind, Row text, Row tag, int type) {
            return has(t) && kinds[t] == kind && types[t] == type
                    && lengths[t] == text.length && tagLengths[t] == tag.length
                    && holds(codes, t * MAX_CODES, text) && holds(tags, t * MAX_TAG, tag);
        }

        private static boolean holds(int[] column, int from, Row row) {
            if (from < 0 || from + row.length > column.length) {
                return false;
            }
            for (int i = 0; i < row.length && i < row.items.length; i++) {
                if (column[from + i] != row.items[i]) {
                    return false;
                }
            }
            return true;
        }

        private int add(int kind, Row text, Row tag, int type) {
            if (size < 0 || size >= MAX_TERMS || text.length > MAX_CODES || tag.length > MAX_TAG) {
                full = true;
                return NONE;
            }
            int t = size;
            kinds[t] = kind;
            types[t] = type;
            lengths[t] = text.length;
            tagLengths[t] = tag.length;
            for (int i = 0; i < text.length && i < MAX_CODES; i++) {
                codes[t * MAX_CODES + i] = text.get(i);
            }
            for (int i = 0; i < tag.length && i < MAX_TAG; i++) {
                tags[t * MAX_TAG + i] = tag.get(i);
            }
            size++;
            return t;
        }
    }

    /** The quads: four parts each, in one row, the graph's NONE when there is none. */
    private static final class Quads {
        final int[] parts;
        int size;
        boolean full;

        Quads() {
            parts = new int[MAX_QUADS * PARTS];
            size = 0;
            full = false;
        }

        void beginReading() {
            full = false;
        }

        void cutTo(int newSize) {
            if (newSize >= 0 && newSize < size) {
                size = newSize;
            }
        }

        boolean has(int i) {
            return i >= 0 && i < size && i < MAX_QUADS;
        }

        int part(int i, int which) {
            return has(i) && which >= 0 && which < PARTS ? parts[i * PARTS + which] : NONE;
        }

        int indexOf(int s, int p, int o, int g) {
            for (int i = 0; i < size; i++) {
                if (part(i, 0) == s && part(i, 1) == p && part(i, 2) == o && part(i, GRAPH) == g) {
                    return i;
                }
            }
            return NONE;
        }

        void addNew(int s, int p, int o, int g) {
            if (indexOf(s, p, o, g) != NONE) {
                return;
            }
            if (size < 0 || size >= MAX_QUADS) {
                full = true;
                return;
            }
            int from = size * PARTS;
            parts[from] = s;
            parts[from + 1] = p;
            parts[from + 2] = o;
            parts[from + GRAPH] = g;
            size++;
        }

        void remove(int i) {
            if (!has(i)) {
                return;
            }
            for (int k = i * PARTS; k + PARTS < size * PARTS && k + PARTS < parts.length; k++) {
                parts[k] = parts[k + PARTS];
            }
            size--;
        }
    }

    /**
     * Reads the tape from its start. The first fault ends the reading: the place then goes
     * to the tape's end, so that whatever is asked for behind it comes to nothing.
     */
    private static final class Reader {
        private final Row tape;
        private final Terms terms;
        private final Quads quads;
        private final Row text;
        private final Row typeText;
        private final Row tag;
        private final Row noTag;
        private int place;
        private int behind;
        int fault;

        Reader(Row tape, Terms terms, Quads quads) {
            this.tape = tape;
            this.terms = terms;
            this.quads = quads;
            text = new Row(MAX_CODES);
            typeText = new Row(MAX_CODES);
            tag = new Row(MAX_TAG);
            noTag = new Row(0);
            place = 0;
            behind = 0;
            fault = NONE;
        }

        void begin() {
            place = 0;
            fault = NONE;
            terms.beginReading();
            quads.beginReading();
        }

        boolean comesToStatement() {
            skipBlanks();
            int next = peek();
            return next != NONE && next != LINE_END && next != '#';
        }

        void readStatement() {
            int subject = readTerm(LABEL);
            skipBlanks();
            int predicate = readTerm(NODE);
            skipBlanks();
            int object = readTerm(LITERAL);
            skipBlanks();
            int graph = NONE;
            if (peek() != '.') {
                graph = readTerm(LABEL);
                skipBlanks();
            }
            take('.');
            if (fault == NONE && !terms.full) {
                quads.addNew(subject, predicate, object, graph);
            }
        }

        /** Goes over the line's end; tells whether another line begins there. */
        boolean endLine() {
            skipBlanks();
            if (peek() == '#') {
                skipComment();
            }
            if (peek() == NONE) {
                return false;
            }
            take(LINE_END);
            return fault == NONE;
        }

        /** The kinds are numbered such that each part of a statement takes those up to one. */
        private int readTerm(int lastKind) {
            int next = peek();
            if (next == '<') {
                readCodes(text, NODE);
                return terms.numberOf(NODE, text, noTag, NONE);
            }
            if (next == '_' && lastKind >= LABEL) {
                return readLabel();
            }
            if (next == '"' && lastKind >= LITERAL) {
                return readLiteral();
            }
            refuse(place);
            return NONE;
        }

        private int readLabel() {
            take('_');
            take(':');
            int end = nameEnd();
            if (end == place) {
                refuse(place);
                return NONE;
            }
            if (end - place > MAX_NAME) {
                refuse(place + MAX_NAME);
                return NONE;
            }
            text.clear();
            for (int i = place; i < end; i++) {
                text.add(tape.get(i));
            }
            place = end;
            return terms.numberOf(LABEL, text, noTag, NONE);
        }

        /** Dots belong to the name only when another of its signs comes behind them. */
        private int nameEnd() {
            int first = peek();
            int end = place;
            if (first == '-' || first == '.') {
                return end;
            }
            for (int i = place; i < tape.length && isNameSign(tape.get(i)); i++) {
                if (tape.get(i) != '.') {
                    end = i + 1;
                }
            }
            return end;
        }

        private int readLiteral() {
            int type = NONE;
            tag.clear();
            readCodes(text, LITERAL);
            if (peek() == '@') {
                take('@');
                readTag();
            } else if (peek() == '^') {
                take('^');
                take('^');
                readCodes(typeText, NODE);
                type = terms.numberOf(NODE, typeText, noTag, NONE);
            }
            return terms.numberOf(LITERAL, text, tag, type);
        }

        private void readTag() {
            boolean firstPart = true;
            int inPart = 0;
            for (int n = 0; n <= MAX_TAG; n++) {
                int next = peek();
                boolean dash = next == '-' && inPart > 0;
                boolean sign = isLetter(next) || (isDigit(next) && !firstPart);
                if (!dash && !sign) {
                    break;
                }
                if (tag.length == MAX_TAG || (sign && inPart == MAX_TAG_PART)) {
                    refuse(place);
                    return;
                }
                tag.add(smallLetter(next));
                take(next);
                firstPart = firstPart && sign;
                inPart = dash ? 0 : inPart + 1;
            }
            if (inPart == 0) {
                refuse(place);
            }
        }

        /** Reads what stands between the signs of a node or a literal, and these signs. */
        private void readCodes(Row into, int kind) {
            int closing = kind == NODE ? '>' : '"';
            into.clear();
            take(kind == NODE ? '<' : '"');
            for (int n = 0; n < MAX_CODES && peek() != closing; n++) {
                boolean raw = peek() != '\\';
                behind = place + 1;
                int code = raw ? peek() : slashedCode(kind);
                if (kind == NODE ? !isNodeCode(code, raw) : !isLiteralCode(code, raw)) {
                    refuse(place);
                    return;
                }
                into.add(code);
                place = behind;
            }
            if (kind == NODE && into.length == 0) {
                refuse(place);
            }
            take(closing);
        }

        /** The code that the \ at the place begins, or NONE; it leaves the byte behind it in behind. */
        private int slashedCode(int kind) {
            int letter = tape.get(place + 1);
            int digits = letter == 'u' ? 4 : letter == 'U' ? 8 : 0;
            behind = place + 2 + digits;
            if (digits == 0) {
                return kind == LITERAL ? signCode(letter) : NONE;
            }
            long code = 0;
            for (int i = place + 2; i < behind; i++) {
                int digit = hexDigit(tape.get(i));
                if (digit == NONE) {
                    return NONE;
                }
                code = code * 16 + digit;
            }
            return isCode(code) ? (int) code : NONE;
        }

        private int peek() {
            return tape.get(place);
        }

        private void take(int sign) {
            if (tape.get(place) == sign) {
                place++;
            } else {
                refuse(place);
            }
        }

        private void refuse(int where) {
            if (fault == NONE) {
                fault = where;
            }
            place = tape.length;
        }

        private void skipBlanks() {
            while (place < tape.length && isBlank(peek())) {
                place++;
            }
        }

        private void skipComment() {
            while (place < tape.length && peek() != LINE_END) {
                place++;
            }
        }

        private static boolean isBlank(int sign) {
            return sign == 9 || sign == 13 || sign == 32;
        }

        private static boolean isLetter(int sign) {
            return (sign >= 'a' && sign <= 'z') || (sign >= 'A' && sign <= 'Z');
        }

        private static boolean isDigit(int sign) {
            return sign >= '0' && sign <= '9';
        }

        private static boolean isNameSign(int sign) {
            return isLetter(sign) || isDigit(sign) || sign == '_' || sign == '-' || sign == '.';
        }

        private static int smallLetter(int sign) {
            return sign >= 'A' && sign <= 'Z' ? sign + 32 : sign;
        }

        private static int hexDigit(int sign) {
            if (sign >= '0' && sign <= '9') {
                return sign - '0';
            }
            if (sign >= 'A' && sign <= 'F') {
                return sign - 'A' + 10;
            }
            return sign >= 'a' && sign <= 'f' ? sign - 'a' + 10 : NONE;
        }

        private static boolean isCode(long code) {
            return code >= 0 && code <= MAX_CODE && (code < 55296 || code > 57343);
        }

        private static boolean isLiteralCode(int code, boolean raw) {
            return raw ? code == 9 || (code >= 32 && code <= 126) : code != NONE;
        }

        private static boolean isNodeCode(int code, boolean raw) {
            if (code <= 32 || (raw && code > 126)) {
                return false;
            }
            switch (code) {
                case '<':
                case '>':
                case '"':
                case '{':
                case '}':
                case '|':
                case '^':
                case '`':
                case '\\':
                    return false;
                default:
                    return true;
            }
        }

        private static int signCode(int letter) {
            switch (letter) {
                case 't':
                    return 9;
                case 'b':
                    return 8;
                case 'n':
                    return 10;
                case 'r':
                    return 13;
                case 'f':
                    return 12;
                case '"':
                case '\'':
                case '\\':
                    return letter;
                default:
                    return NONE;
            }
        }
    }

    /**
     * Prints the quads into a row of its own first: the out has to stay when there are too
     * many bytes, and the lines have to stand whole before they can be put in order.
     */
    private static final class Printer {
        private final Terms terms;
        private final Quads quads;
        private final Row printed;
        private final int[] starts;
        private final int[] order;
        private int size;

        Printer(Terms terms, Quads quads) {
            this.terms = terms;
            this.quads = quads;
            printed = new Row(MAX_BYTES);
            starts = new int[MAX_QUADS + 1];
            order = new int[MAX_QUADS];
            size = 0;
        }

        /** Tells whether the bytes of all lines had room. */
        boolean fillLines() {
            printed.clear();
            size = 0;
            for (int i = 0; i < quads.size && i < MAX_QUADS && !printed.spilled; i++) {
                starts[i] = printed.length;
                order[i] = i;
                for (int which = 0; which < PARTS; which++) {
                    addTerm(quads.part(i, which));
                }
                printed.add('.');
                printed.add(LINE_END);
                starts[i + 1] = printed.length;
                size = i + 1;
            }
            return !printed.spilled;
        }

        void sortLines() {
            for (int i = 1; i < size && i < MAX_QUADS; i++) {
                int moved = order[i];
                int k = i;
                while (k > 0 && comesBefore(moved, order[k - 1])) {
                    order[k] = order[k - 1];
                    k--;
                }
                order[k] = moved;
            }
        }

        void copyLines(Row out) {
            out.clear();
            for (int i = 0; i < size && i < MAX_QUADS; i++) {
                int start = startOf(order[i]);
                int end = startOf(order[i] + 1);
                for (int k = start; k < end; k++) {
                    out.add(printed.get(k));
                }
            }
        }

        private int startOf(int i) {
            return i >= 0 && i < starts.length ? starts[i] : printed.length;
        }

        /** No line is the beginning of another, as each has its one byte 10 at its end. */
        private boolean comesBefore(int a, int b) {
            int from = startOf(a);
            int other = startOf(b);
            int length = Math.min(startOf(a + 1) - from, startOf(b + 1) - other);
            for (int i = 0; i < length; i++) {
                int mine = printed.get(from + i);
                int its = printed.get(other + i);
                if (mine != its) {
                    return mine < its;
                }
            }
            return false;
        }

        private void addTerm(int t) {
            if (!terms.has(t)) {
                return;
            }
            if (terms.kinds[t] == LABEL) {
                addLabel(t);
            } else {
                addCodes(t);
            }
            if (terms.tagLengths[t] > 0) {
                addTag(t);
            }
            if (terms.has(terms.types[t])) {
                printed.add('^');
                printed.add('^');
                addCodes(terms.types[t]);
            }
            printed.add(' ');
        }

        private void addLabel(int t) {
            printed.add('_');
            printed.add(':');
            printed.add('b');
            if (t >= 100) {
                printed.add('0' + t / 100);
            }
            if (t >= 10) {
                printed.add('0' + t / 10 % 10);
            }
            printed.add('0' + t % 10);
        }

        private void addTag(int t) {
            printed.add('@');
            for (int i = 0; i < terms.tagLengths[t]; i++) {
                printed.add(terms.tagAt(t, i));
            }
        }

        private void addCodes(int t) {
            boolean literal = terms.kinds[t] == LITERAL;
            printed.add(literal ? '"' : '<');
            for (int i = 0; i < terms.lengths[t]; i++) {
                int code = terms.codeAt(t, i);
                int letter = literal ? signLetter(code) : NONE;
                if (letter != NONE) {
                    printed.add('\\');
                    printed.add(letter);
                } else if (code >= 32 && code <= 126) {
                    printed.add(code);
                } else {
                    addEscape(code);
                }
            }
            printed.add(literal ? '"' : '>');
        }

        private void addEscape(int code) {
            boolean small = code <= 65535;
            printed.add('\\');
            printed.add(small ? 'u' : 'U');
            for (int shift = small ? 12 : 28; shift >= 0; shift -= 4) {
                int digit = code >> shift & 15;
                printed.add(digit < 10 ? '0' + digit : 'A' + digit - 10);
            }
        }

        private static int signLetter(int code) {
            switch (code) {
                case 9:
                    return 't';
                case 8:
                    return 'b';
                case 10:
                    return 'n';
                case 13:
                    return 'r';
                case 12:
                    return 'f';
                case '"':
                case '\\':
                    return code;
                default:
                    return NONE;
            }
        }
    }
}
