import java.util.Arrays;

/** What the tests of the document's sentences share: floats, cells and texts made short, and what is due told. */
abstract class Checks {
    static final long INF = 0x7FF0000000000000L, MINUS_INF = INF | Long.MIN_VALUE;
    static final long NAN = 9221120237041090560L, MOST = INF - 1, LEAST = 1;
    static final int BAD = -1, FULL = -2;
    static final int ILL = 0, TRV = 1, DEF = 2, DAC = 3, COM = 4;
    static final double FAR = Double.POSITIVE_INFINITY, BIG = Double.MAX_VALUE, TINY = Double.MIN_VALUE;

    private static int wrong = 0, seen = 0, seenBefore = 0;
    private static String sentence = "";

    /** Begins what is looked at for one sentence of the document, or one promise. */
    static void sentence(String words) {
        closeSentence();
        sentence = words;
    }

    private static void closeSentence() {
        if (!sentence.isEmpty() && seen == seenBefore) fail("nothing was looked at");
        seenBefore = seen;
    }

    private static void fail(String words) {
        wrong++;
        System.out.println(sentence + ": " + words);
    }

    /** Ends the program, with exit code 1 if an answer was not the one that is due. */
    static void finish() {
        closeSentence();
        System.out.println(wrong == 0 ? seen + " answers are as due" : wrong + " of " + seen + " answers are not as due");
        if (wrong != 0) System.exit(1);
    }

    static void due(String what, long got, long want) {
        seen++;
        if (got != want) fail(what + " answered " + got + ", due is " + want);
    }

    static void due(String what, String got, String want) {
        seen++;
        if (!got.equals(want)) fail(what + " answered " + got + ", due is " + want);
    }

    static double up(double d) {
        return Math.nextUp(d);
    }

    static double down(double d) {
        return Math.nextDown(d);
    }

    static long bits(double d) {
        return Double.doubleToRawLongBits(d);
    }

    /** Bits of a float that is answered: no zero has a sign there. */
    static long answered(double d) {
        return d == 0 ? 0 : bits(d);
    }

    static int cell(Tape t, double low, double high) {
        return t.cell(bits(low), bits(high));
    }

    static int empty(Tape t) {
        return read(t, "[empty]");
    }

    static int ill(Tape t) {
        return t.cell(NAN, NAN);
    }

    static int entire(Tape t) {
        return t.cell(MINUS_INF, INF);
    }

    /** Twenty bytes of a text, from a place on, with zeros behind its end. */
    static int feed(Tape t, String text, int at) {
        int[] four = new int[5];
        for (int i = 0; i < 20; i++) {
            int c = at + i < text.length() ? text.charAt(at + i) : 0;
            four[i / 4] |= c << (24 - 8 * (i % 4));
        }
        return t.feed(four[0], four[1], four[2], four[3], four[4]);
    }

    static void put(Tape t, String text) {
        for (int at = 0; at < text.length(); at += 20) feed(t, text, at);
        if (text.length() % 20 != 0) t.end(text.length() % 20);
    }

    static int read(Tape t, String text) {
        put(t, text);
        return t.literal();
    }

    static String out(Tape t, int n) {
        StringBuilder b = new StringBuilder();
        long word = 0;
        for (int i = 0; i < n; i++) {
            if (i % 8 == 0) word = t.word(i / 8);
            b.append((char) (word >>> (8 * (i % 8)) & 255));
        }
        return b.toString();
    }

    static String written(Tape t, int cell, int digits) {
        return out(t, t.write(cell, digits));
    }

    static void dueBits(Tape t, String what, int cell, long low, long high, int mark) {
        due(what + " low", t.low(cell), low);
        due(what + " high", t.high(cell), high);
        due(what + " mark", t.markOf(cell), mark);
    }

    static void dueCell(Tape t, String what, int cell, double low, double high, int mark) {
        dueBits(t, what, cell, answered(low), answered(high), mark);
    }

    static void dueEmpty(Tape t, String what, int cell) {
        dueBits(t, what, cell, INF, MINUS_INF, TRV);
    }

    static void dueIll(Tape t, String what, int cell) {
        dueBits(t, what, cell, NAN, NAN, ILL);
    }

    static void dueText(String text, double low, double high, int mark) {
        Tape t = new Tape();
        dueCell(t, text, read(t, text), low, high, mark);
    }

    static void dueEmptyTexts(String... texts) {
        for (String text : texts) {
            Tape t = new Tape();
            dueEmpty(t, text, read(t, text));
        }
    }

    static void dueIllTexts(String... texts) {
        for (String text : texts) {
            Tape t = new Tape();
            dueIll(t, text, read(t, text));
        }
    }

    static void dueWritten(Tape t, int cell, int digits, String want) {
        due("digits " + digits, written(t, cell, digits), want);
        due("bytes of " + want, t.write(cell, digits), want.length());
    }

    /** An interval by its ends; by one number alone; by none the empty one. */
    static double[] box(double... ends) {
        return ends;
    }

    static final double[] NONE = {}, ALL = {-FAR, FAR};

    static int make(Tape t, double[] box) {
        return box.length == 0 ? empty(t) : cell(t, box[0], box[box.length - 1]);
    }

    static void dueBox(Tape t, String what, int cell, double[] want, int mark) {
        if (want.length > 0) dueCell(t, what, cell, want[0], want[want.length - 1], mark);
        else dueBits(t, what, cell, INF, MINUS_INF, mark);
    }

    static void dueOne(int operation, double[] x, double[] want, int mark) {
        Tape t = new Tape();
        dueBox(t, "one(" + operation + ") of " + Arrays.toString(x), t.one(operation, make(t, x)), want, mark);
    }

    static void dueTwo(int operation, double[] x, double[] y, double[] want, int mark) {
        Tape t = new Tape();
        String what = "two(" + operation + ") of " + Arrays.toString(x) + ", " + Arrays.toString(y);
        dueBox(t, what, t.two(operation, make(t, x), make(t, y)), want, mark);
    }

    static void duePower(double[] x, int n, double[] want, int mark) {
        Tape t = new Tape();
        dueBox(t, "power " + n + " of " + Arrays.toString(x), t.power(make(t, x), n), want, mark);
    }

    static void dueFused(double[] x, double[] y, double[] z, double[] want, int mark) {
        Tape t = new Tape();
        String what = "fused of " + Arrays.toString(x) + ", " + Arrays.toString(y) + ", " + Arrays.toString(z);
        dueBox(t, what, t.fused(make(t, x), make(t, y), make(t, z)), want, mark);
    }
}
