/** An object of the class that counts its calls, as nothing is due behind the 512th. */
final class Counted {
    private static final int MOST_CALLS = 512;

    private final TripleLines lines = new TripleLines();
    private int calls = 0;

    int callsLeft() {
        return MOST_CALLS - calls;
    }

    private TripleLines next() {
        if (calls == MOST_CALLS) {
            throw new IllegalStateException("a test makes a 513th call, whose answer is free");
        }
        calls++;
        return lines;
    }

    int type(long bytes, int n) {
        return next().type(bytes, n);
    }

    int pass() {
        return next().pass();
    }

    int read() {
        return next().read();
    }

    int line() {
        return next().line();
    }

    int quad(int i, int which) {
        return next().quad(i, which);
    }

    int term(int t, int what) {
        return next().term(t, what);
    }

    int code(int t, int i) {
        return next().code(t, i);
    }

    int find(int s, int p, int o, int g) {
        return next().find(s, p, o, g);
    }

    int drop(int i) {
        return next().drop(i);
    }

    int print(int form) {
        return next().print(form);
    }

    int at(int i) {
        return next().at(i);
    }

    int count(int what) {
        return next().count(what);
    }
}
