/** The document's terms FLOATS, INTERVALS and CELLS: each sentence that names a boundary case. */
public final class TermTests extends Checks {
    private static final double NORMAL = Double.MIN_NORMAL;

    private static void promisedCalls() {
        sentence("an object is used for at most 512 calls");
        Tape t = new Tape();
        for (int i = 0; i < 510; i++) t.cell(bits(i), INF);
        due("the 511th call", t.low(509), bits(509));
        due("the 512th call", t.one(2, 509), 510);
        due("calls", t.calls(), 512);
        Tape u = new Tape();
        for (int i = 0; i < 511; i++) u.literal();
        due("the 512th call", u.count(), 511);
    }

    private static void floatsOfLeastScale() {
        sentence("FLOATS: with E = 0 the value F / 2 ^ 1074");
        dueText("[0x1p-1074]", TINY, TINY, COM);
        dueText("[0x0.fffffffffffffp-1022]", down(NORMAL), down(NORMAL), COM);
        dueTwo(0, box(down(NORMAL)), box(TINY), box(NORMAL), COM);
        dueTwo(1, box(NORMAL), box(TINY), box(down(NORMAL)), COM);
        dueTwo(2, box(NORMAL), box(0.5), box(NORMAL / 2), COM);
        dueTwo(2, box(3 * TINY), box(0.5), box(TINY, 2 * TINY), COM);
        dueTwo(2, box(down(NORMAL)), box(2), box(down(NORMAL) * 2), COM);
        dueOne(3, box(4 * TINY), box(0x1p-536), COM);
    }

    private static void floatsOfOtherScales() {
        sentence("FLOATS: with E from 1 to 2046 (1 + F / 2 ^ 52) * 2 ^ (E - 1023)");
        Tape t = new Tape();
        dueBits(t, "E 1", read(t, "[0x1p-1022]"), 1L << 52, 1L << 52, COM);
        dueBits(t, "E 1023", read(t, "[1]"), 1023L << 52, 1023L << 52, COM);
        dueBits(t, "E 2046", read(t, "[0x1p1023]"), 2046L << 52, 2046L << 52, COM);
        dueBits(t, "E 2046 and the greatest F", read(t, "[0x1.fffffffffffffp1023]"), MOST, MOST, COM);
        dueBits(t, "a sign", read(t, "[-0x1.8p0]"), 0xBFF8000000000000L, 0xBFF8000000000000L, COM);
    }

    private static void infinityAndNans() {
        sentence("FLOATS: with E = 2047 and F = 0 infinity, otherwise none (a NaN, told as 9221120237041090560)");
        Tape t = new Tape();
        dueBits(t, "infinity", t.cell(0, 0x7FF0000000000000L), 0, 9218868437227405312L, DAC);
        dueBits(t, "-infinity", t.cell(0xFFF0000000000000L, 0), 0xFFF0000000000000L, 0, DAC);
        long[] nans = {INF + 1, INF + 2, NAN, NAN + 1, Long.MAX_VALUE, MINUS_INF + 1, NAN | Long.MIN_VALUE, -1L};
        for (long nan : nans) {
            dueBits(t, "low " + nan, t.cell(nan, bits(1)), 9221120237041090560L, 9221120237041090560L, ILL);
            dueBits(t, "high " + nan, t.cell(bits(1), nan), 9221120237041090560L, 9221120237041090560L, ILL);
            dueIll(t, "low " + nan + ", high infinity", t.cell(nan, INF));
            dueIll(t, "low -infinity, high " + nan, t.cell(MINUS_INF, nan));
            due("has " + nan, t.has(0, nan), 0);
            due("-has " + nan, t.has(1, nan), 0);
        }
        due("number", t.number(2, 0), 9221120237041090560L);
    }

    private static void zerosThatCome() {
        sentence("FLOATS: a zero with a sign that comes is 0");
        Tape t = new Tape();
        long minusZero = Long.MIN_VALUE;
        dueBits(t, "-0 .. -0", t.cell(minusZero, minusZero), 0, 0, COM);
        dueBits(t, "0 .. -0", t.cell(0, minusZero), 0, 0, COM);
        dueBits(t, "-0 .. 0", t.cell(minusZero, 0), 0, 0, COM);
        dueBits(t, "-0 .. 1", t.cell(minusZero, bits(1)), 0, bits(1), COM);
        dueBits(t, "-1 .. -0", t.cell(bits(-1), minusZero), bits(-1), 0, COM);
        for (int c = 0; c < 5; c++) due("has -0: " + c, t.has(c, minusZero), 1);
        due("[tiny, 1] has -0", t.has(cell(t, TINY, 1), minusZero), 0);
        due("[-1, -tiny] has -0", t.has(cell(t, -1, -TINY), minusZero), 0);
        dueCell(t, "root from -0", t.one(3, 3), 0, 1, COM);
        dueEmpty(t, "1 / -0", t.one(1, 0));
        due("compare", t.compare(0, cell(t, 0, 0), 0), 1);
    }

    private static void zerosThatAreAnswered() {
        sentence("FLOATS: zeros that are answered have no sign");
        double[] zero = box(0), minusZero = box(-0.0);
        for (int operation : new int[] {0, 2, 3, 4, 5, 6, 7, 8, 9}) {
            dueOne(operation, zero, zero, operation >= 5 && operation <= 7 ? DAC : COM);
            dueOne(operation, minusZero, zero, operation >= 5 && operation <= 7 ? DAC : COM);
        }
        dueOne(6, box(-0.5), zero, COM);
        dueOne(8, box(-0.5), zero, COM);
        dueOne(9, box(-0.25), zero, COM);
        dueOne(1, box(-FAR, -1), box(-1, 0), DAC);
        dueTwo(0, box(-1), box(1), zero, COM);
        dueTwo(1, box(1), box(1), zero, COM);
        dueTwo(2, box(-1), zero, zero, COM);
        dueTwo(2, box(-TINY), box(TINY), box(-TINY, 0), COM);
        dueTwo(3, zero, box(-1), zero, COM);
        dueTwo(4, minusZero, zero, zero, COM);
        dueTwo(5, minusZero, box(-1), zero, COM);
        dueTwo(6, box(-1, -0.0), box(0, 1), zero, TRV);
        dueTwo(7, minusZero, zero, zero, TRV);
        dueTwo(8, box(1, 2), box(1, 2), zero, TRV);
        dueTwo(9, box(-2, -1), box(1, 2), zero, TRV);
        dueTwo(10, box(-1), ALL, box(-FAR, 0), TRV);
        dueTwo(11, box(-1), ALL, box(0, FAR), TRV);
        dueFused(box(-1), box(1), box(1), zero, COM);
        duePower(minusZero, 3, zero, COM);
        duePower(box(-FAR, -1), -3, box(-1, 0), DAC);
        dueText("[-0]", 0, 0, COM);
        dueText("[-0e-5,-0x0p1]", 0, 0, COM);
        dueText("[-0/5]", 0, 0, COM);
        dueText("-0?0", 0, 0, COM);
        dueText("[-1e-400]", -TINY, 0, COM);
        Tape t = new Tape();
        int cell = t.cell(Long.MIN_VALUE, Long.MIN_VALUE), around = cell(t, -1, 1), least = cell(t, -TINY, 0);
        for (int what = 0; what < 5; what++) due("number " + what, t.number(cell, what), 0);
        due("the middle of [-1, 1]", t.number(around, 0), 0);
        due("the middle of [-tiny, 0]", t.number(least, 0), 0);
        due("the least size in [-tiny, 0]", t.number(least, 4), 0);
    }

    private static void roundedOutward() {
        sentence("FLOATS: rounded down (up) a number is the greatest float not above it (the least one not below it)");
        dueTwo(0, box(1), box(TINY), box(1, up(1)), COM);
        dueTwo(1, box(1), box(TINY), box(down(1), 1), COM);
        dueTwo(0, box(-1), box(-TINY), box(down(-1), -1), COM);
        dueTwo(1, box(-1), box(-TINY), box(-1, up(-1)), COM);
        dueTwo(2, box(TINY), box(down(1)), box(0, TINY), COM);
        dueTwo(2, box(-TINY), box(down(1)), box(-TINY, 0), COM);
        dueTwo(3, box(TINY), box(BIG), box(0, TINY), COM);
        dueTwo(0, box(1), box(Math.ulp(1.0)), box(up(1)), COM);
        dueTwo(0, box(0x1p53), box(1), box(0x1p53, 0x1p53 + 2), COM);
        dueTwo(0, box(0x1p53 - 1), box(1), box(0x1p53), COM);
        dueTwo(3, box(1), box(3), box(1.0 / 3, up(1.0 / 3)), COM);
        sentence("FLOATS: infinity is among those that are rounded to, GREATEST the greatest float below it");
        dueTwo(0, box(BIG), box(TINY), box(BIG, FAR), DAC);
        dueTwo(1, box(-BIG), box(TINY), box(-FAR, -BIG), DAC);
        dueTwo(2, box(BIG), box(BIG), box(BIG, FAR), DAC);
        dueTwo(2, box(-BIG), box(BIG), box(-FAR, -BIG), DAC);
        dueTwo(2, box(0x1p1023), box(2), box(BIG, FAR), DAC);
        dueTwo(2, box(down(0x1p1023)), box(2), box(BIG), COM);
        dueTwo(0, box(BIG), box(0), box(BIG), COM);
        dueText("[0x1p1024]", BIG, FAR, DAC);
        dueText("[-0x1p1024]", -FAR, -BIG, DAC);
        dueText("[0x1.fffffffffffff7p1023]", BIG, FAR, DAC);
        dueText("[0x1.fffffffffffffp1023]", BIG, BIG, COM);
    }

    private static void dueMiddle(double low, double high, double want) {
        Tape t = new Tape();
        due("the middle of " + low + " .. " + high, t.number(cell(t, low, high), 0), answered(want));
    }

    private static void roundedToTheNearest() {
        sentence("FLOATS: to the nearest that which is nearest, of two the one with an even F");
        double e = Math.ulp(1.0);
        dueMiddle(1, 1 + e, 1);
        dueMiddle(1 + e, 1 + 2 * e, 1 + 2 * e);
        dueMiddle(-1 - e, -1, -1);
        dueMiddle(-1 - 2 * e, -1 - e, -1 - 2 * e);
        dueMiddle(0, TINY, 0);
        dueMiddle(-TINY, 0, 0);
        dueMiddle(TINY, 2 * TINY, 2 * TINY);
        dueMiddle(2 * TINY, 3 * TINY, 2 * TINY);
        dueMiddle(down(NORMAL), NORMAL, NORMAL);
        dueMiddle(down(2), 2, 2);
        // Half the sum of 2 and e lies just between two floats; what is beside that by ever so little goes to its side.
        dueMiddle(e, 2, 1);
        dueMiddle(up(e), 2, 1 + e);
        dueMiddle(down(3 * e), 2, 1 + e);
        dueMiddle(3 * e, 2, 1 + 2 * e);
        dueMiddle(TINY, 1, 0.5);
        sentence("FLOATS: to the nearest, infinity from 2 ^ 1024 - 2 ^ 970 on: no middle is that far");
        dueMiddle(BIG, BIG, BIG);
        dueMiddle(-BIG, -BIG, -BIG);
        dueMiddle(down(BIG), BIG, down(BIG));
        dueMiddle(down(down(BIG)), BIG, down(BIG));
        dueMiddle(-BIG, BIG, 0);
        dueMiddle(-BIG, down(BIG), -0x1p970);
        dueMiddle(0, BIG, BIG / 2);
    }

    private static void intervals() {
        sentence("INTERVALS: low <= high");
        Tape t = new Tape();
        dueCell(t, "the same", cell(t, 1, 1), 1, 1, COM);
        dueIll(t, "above by the next float", cell(t, up(1), 1));
        dueIll(t, "above below 0", cell(t, -1, down(-1)));
        dueIll(t, "tiny .. 0", cell(t, TINY, 0));
        dueIll(t, "0 .. -tiny", cell(t, 0, -TINY));
        dueCell(t, "-tiny .. tiny", cell(t, -TINY, TINY), -TINY, TINY, COM);
        dueIll(t, "tiny .. -tiny", cell(t, TINY, -TINY));
        dueIll(t, "1 .. -infinity", cell(t, 1, -FAR));
        dueIll(t, "infinity .. 1", cell(t, FAR, 1));
        sentence("INTERVALS: low not infinity, high not -infinity");
        dueIll(t, "infinity .. infinity", t.cell(INF, INF));
        dueIll(t, "-infinity .. -infinity", t.cell(MINUS_INF, MINUS_INF));
        dueIll(t, "infinity .. -infinity", t.cell(INF, MINUS_INF));
        dueCell(t, "greatest .. infinity", t.cell(MOST, INF), BIG, FAR, DAC);
        dueCell(t, "-infinity .. -greatest", cell(t, -FAR, -BIG), -FAR, -BIG, DAC);
        sentence("INTERVALS: infinities are no numbers; entire is all numbers");
        int above = cell(t, 0, FAR), all = entire(t);
        due("[0, inf] has the greatest", t.has(above, MOST), 1);
        due("[0, inf] has infinity", t.has(above, INF), 0);
        due("entire has -greatest", t.has(all, MOST | Long.MIN_VALUE), 1);
        due("entire has -infinity", t.has(all, MINUS_INF), 0);
        due("entire is entire", t.is(all, 1), 1);
        due("[-inf, greatest] is entire", t.is(cell(t, -FAR, BIG), 1), 0);
        due("[-greatest, inf] is entire", t.is(cell(t, -BIG, FAR), 1), 0);
    }

    private static void marksOfNewCells() {
        sentence("CELLS: the strongest mark is COM for one that is not empty and bounded, DAC for an unbounded one, TRV for an empty one");
        Tape t = new Tape();
        due("one number", t.markOf(cell(t, 0, 0)), COM);
        due("the widest bounded one", t.markOf(cell(t, -BIG, BIG)), COM);
        due("unbounded above", t.markOf(cell(t, -BIG, FAR)), DAC);
        due("unbounded below", t.markOf(cell(t, -FAR, BIG)), DAC);
        due("entire", t.markOf(entire(t)), DAC);
        due("empty", t.markOf(read(t, "[ ]")), TRV);
        sentence("CELLS: an ill one has the mark 0 and no interval");
        dueIll(t, "of a cell", t.cell(NAN, 0));
        dueIll(t, "of a text", read(t, "[nai]"));
    }

    public static void main(String[] args) {
        promisedCalls();
        floatsOfLeastScale();
        floatsOfOtherScales();
        infinityAndNans();
        zerosThatCome();
        zerosThatAreAnswered();
        roundedOutward();
        roundedToTheNearest();
        intervals();
        marksOfNewCells();
        finish();
    }
}
