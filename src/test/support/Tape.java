/**
 * An IntervalTape that counts its calls: the document promises nothing about an object behind its 512th call,
 * so that a test that goes on is wrong itself, unless it says that it must.
 */
final class Tape {
    private static final int PROMISED = 512;
    private final IntervalTape tape = new IntervalTape();
    private final int most;
    private int calls;

    Tape() {
        this(PROMISED);
    }

    private Tape(int most) {
        this.most = most;
    }

    /** For what can not be reached within the promised calls. */
    static Tape beyondPromised() {
        return new Tape(Integer.MAX_VALUE);
    }

    private IntervalTape called() {
        calls++;
        if (calls > most) throw new IllegalStateException("a test makes more calls than are promised");
        return tape;
    }

    int calls() { return calls; }

    /** The object itself, for what the face can not show. */
    IntervalTape inside() { return tape; }

    int feed(int a, int b, int c, int d, int e) { return called().feed(a, b, c, d, e); }
    int end(int n) { return called().end(n); }
    int literal() { return called().literal(); }
    int cell(long low, long high) { return called().cell(low, high); }
    int mark(int cell, int mark) { return called().mark(cell, mark); }
    int one(int operation, int x) { return called().one(operation, x); }
    int two(int operation, int x, int y) { return called().two(operation, x, y); }
    int fused(int x, int y, int z) { return called().fused(x, y, z); }
    int power(int x, int n) { return called().power(x, n); }
    int count() { return called().count(); }
    int clear() { return called().clear(); }
    long low(int cell) { return called().low(cell); }
    long high(int cell) { return called().high(cell); }
    int markOf(int cell) { return called().markOf(cell); }
    long number(int cell, int what) { return called().number(cell, what); }
    int is(int cell, int what) { return called().is(cell, what); }
    int has(int cell, long number) { return called().has(cell, number); }
    int compare(int x, int y, int how) { return called().compare(x, y, how); }
    int write(int cell, int digits) { return called().write(cell, digits); }
    long word(int i) { return called().word(i); }
    int astray() { return called().astray(); }
}
