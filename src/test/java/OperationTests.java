/** The document's OPERATIONS with their table: each sentence that names a boundary case. */
public final class OperationTests extends Checks {
    private static final double E = Math.ulp(1.0);

    private static int apply(Tape t, int operation, int x, int y, int z) {
        if (operation < 10) return t.one(operation, x);
        if (operation < 22) return t.two(operation - 10, x, y);
        return operation == 22 ? t.fused(x, y, z) : t.power(x, new int[] {0, 3, -3}[operation - 23]);
    }

    private static void illOperands() {
        sentence("OPERATIONS: with one that is ill the new cell is ill");
        for (int operation = 0; operation < 26; operation++) {
            Tape t = new Tape();
            int ill = ill(t);
            for (int other : new int[] {cell(t, 1, 2), empty(t), entire(t), cell(t, 0, 0), ill}) {
                dueIll(t, operation + ": ill first", apply(t, operation, ill, other, other));
                if (operation >= 10 && operation < 23) dueIll(t, operation + ": ill second", apply(t, operation, other, ill, other));
                if (operation == 22) dueIll(t, "fused: ill third", apply(t, operation, other, other, ill));
            }
            due(operation + ": ill of ill", t.markOf(apply(t, operation, t.count() - 1, ill, ill)), ILL);
        }
    }

    private static void emptyOperands() {
        sentence("ARITHMETIC: over an empty box there is no value, and the mark is TRV");
        for (int operation = 0; operation < 26; operation++) {
            if (operation >= 16 && operation < 22) continue;
            Tape t = new Tape();
            int none = empty(t);
            for (int other : new int[] {cell(t, 1, 2), entire(t), cell(t, 0, 0), none}) {
                dueEmpty(t, operation + ": empty first", apply(t, operation, none, other, other));
                if (operation >= 10 && operation < 23) dueEmpty(t, operation + ": empty second", apply(t, operation, other, none, other));
                if (operation == 22) dueEmpty(t, "fused: empty third", apply(t, operation, other, other, none));
            }
        }
    }

    private static void leastMark() {
        sentence("ARITHMETIC: the mark is the least of the operands' marks and the operation's own");
        for (int m = TRV; m <= COM; m++) {
            Tape t = new Tape();
            int x = t.mark(cell(t, 1.25, 1.75), m), com = cell(t, 2, 3);
            for (int operation : new int[] {0, 1, 2, 3, 4, 5, 6, 7, 8, 23, 24, 25}) {
                due(operation + " of mark " + m, t.markOf(apply(t, operation, x, x, x)), m);
            }
            for (int operation = 10; operation < 16; operation++) {
                due(operation + " first of mark " + m, t.markOf(apply(t, operation, x, com, com)), m);
                due(operation + " second of mark " + m, t.markOf(apply(t, operation, com, x, com)), m);
            }
            due("fused, x", t.markOf(t.fused(x, com, com)), m);
            due("fused, y", t.markOf(t.fused(com, x, com)), m);
            due("fused, z", t.markOf(t.fused(com, com, x)), m);
            due("own DAC, operand " + m, t.markOf(t.one(5, t.mark(cell(t, 0, 0), m))), Math.min(m, DAC));
            due("own DEF, operand " + m, t.markOf(t.one(5, t.mark(cell(t, 0, 1), m))), Math.min(m, DEF));
            due("own TRV, operand " + m, t.markOf(t.one(3, t.mark(cell(t, -1, 1), m))), TRV);
        }
    }

    private static void bounds() {
        sentence("ARITHMETIC: COM only if the box is bounded and the new interval is bounded");
        dueTwo(0, box(BIG), box(0), box(BIG), COM);
        dueTwo(0, box(BIG), box(TINY), box(BIG, FAR), DAC);
        dueTwo(1, box(-BIG), box(TINY), box(-FAR, -BIG), DAC);
        dueTwo(5, box(-FAR, 1), box(2, 3), box(2, 3), DAC);
        dueTwo(4, box(1, FAR), box(0, 0.5), box(0, 0.5), DAC);
        dueTwo(2, box(0), ALL, box(0), DAC);
        dueTwo(2, ALL, box(0), box(0), DAC);
        dueTwo(3, box(1), box(1, FAR), box(0, 1), DAC);
        dueFused(ALL, box(0), box(1), box(1), DAC);
        dueFused(box(0), ALL, box(1), box(1), DAC);
        dueOne(1, box(1, FAR), box(0, 1), DAC);
        dueOne(5, box(1, FAR), box(1), DAC);
        duePower(ALL, 0, box(1), DAC);
        duePower(box(1, FAR), -40, box(0, 1), DAC);
        sentence("ARITHMETIC: DEF only if f is defined in all of the box, TRV otherwise");
        dueOne(3, box(-TINY, 1), box(0, 1), TRV);
        dueOne(3, box(0, 1), box(0, 1), COM);
        dueOne(1, box(0, 1), box(1, FAR), TRV);
        dueOne(1, box(TINY, 1), box(1, FAR), DAC);
        dueTwo(3, box(0), box(0, 1), box(0), TRV);
        duePower(box(-1, 0), -2, box(1, FAR), TRV);
    }

    private static void negative() {
        sentence("ONE 0: -x");
        dueOne(0, box(-FAR, 3), box(-3, FAR), DAC);
        dueOne(0, box(-TINY, BIG), box(-BIG, TINY), COM);
        dueOne(0, ALL, ALL, DAC);
    }

    private static void reciprocal() {
        sentence("ONE 1: 1 / x, not at 0");
        dueOne(1, box(0), NONE, TRV);
        dueOne(1, box(0, TINY), box(BIG, FAR), TRV);
        dueOne(1, box(-TINY, 0), box(-FAR, -BIG), TRV);
        dueOne(1, box(-TINY, TINY), ALL, TRV);
        dueOne(1, box(0, FAR), box(0, FAR), TRV);
        dueOne(1, box(-FAR, 0), box(-FAR, 0), TRV);
        dueOne(1, box(-1, FAR), ALL, TRV);
        dueOne(1, ALL, ALL, TRV);
        dueOne(1, box(TINY), box(BIG, FAR), DAC);
        dueOne(1, box(-TINY), box(-FAR, -BIG), DAC);
        dueOne(1, box(0x1p-1024), box(BIG, FAR), DAC);
        dueOne(1, box(0x1p-1023), box(0x1p1023), COM);
        dueOne(1, box(BIG), box(0x1p-1024, up(0x1p-1024)), COM);
        dueOne(1, box(1, FAR), box(0, 1), DAC);
        dueOne(1, box(-FAR, -4), box(-0.25, 0), DAC);
        dueOne(1, box(BIG, FAR), box(0, up(0x1p-1024)), DAC);
    }

    private static void square() {
        sentence("ONE 2: x * x");
        dueOne(2, box(-3, 2), box(0, 9), COM);
        dueOne(2, box(-3, -2), box(4, 9), COM);
        dueOne(2, box(0), box(0), COM);
        dueOne(2, box(TINY), box(0, TINY), COM);
        dueOne(2, box(-TINY, 0), box(0, TINY), COM);
        dueOne(2, box(0x1p-537), box(0x1p-1074), COM);
        dueOne(2, box(down(0x1p-537)), box(0, TINY), COM);
        dueOne(2, box(0x1p512), box(BIG, FAR), DAC);
        dueOne(2, box(-0x1p512), box(BIG, FAR), DAC);
        dueOne(2, box(down(0x1p512)), box(down(BIG), BIG), COM);
        dueOne(2, box(-FAR, 1), box(0, FAR), DAC);
        dueOne(2, ALL, box(0, FAR), DAC);
    }

    private static void root() {
        sentence("ONE 3: the root of x, from 0 on");
        dueOne(3, box(0), box(0), COM);
        dueOne(3, box(-0.0, 4), box(0, 2), COM);
        dueOne(3, box(-TINY, 0), box(0), TRV);
        dueOne(3, box(-TINY), NONE, TRV);
        dueOne(3, box(-BIG, -TINY), NONE, TRV);
        dueOne(3, box(-FAR, -1), NONE, TRV);
        dueOne(3, box(-FAR, 4), box(0, 2), TRV);
        dueOne(3, ALL, box(0, FAR), TRV);
        dueOne(3, box(0, FAR), box(0, FAR), DAC);
        dueOne(3, box(TINY), box(0x1p-537), COM);
        dueOne(3, box(2 * TINY), box(down(Math.sqrt(2)) * 0x1p-537, Math.sqrt(2) * 0x1p-537), COM);
        dueOne(3, box(BIG), box(down(0x1p512), 0x1p512), COM);
        dueOne(3, box(BIG, FAR), box(down(0x1p512), FAR), DAC);
        dueOne(3, box(down(1)), box(down(1), 1), COM);
        dueOne(3, box(up(1)), box(1, up(1)), COM);
        dueOne(3, box(9007199136250225.0), box(94906265), COM);
    }

    private static void size() {
        sentence("ONE 4: the greater one of x and -x");
        dueOne(4, box(-3, 2), box(0, 3), COM);
        dueOne(4, box(-2, 3), box(0, 3), COM);
        dueOne(4, box(-TINY, 0), box(0, TINY), COM);
        dueOne(4, box(-3, -2), box(2, 3), COM);
        dueOne(4, box(-FAR, -2), box(2, FAR), DAC);
        dueOne(4, box(-FAR, 2), box(0, FAR), DAC);
        dueOne(4, ALL, box(0, FAR), DAC);
    }

    private static void sign() {
        sentence("ONE 5: 1, 0, -1 above 0, at 0, below 0");
        dueOne(5, box(TINY), box(1), COM);
        dueOne(5, box(0), box(0), DAC);
        dueOne(5, box(-TINY), box(-1), COM);
        dueOne(5, box(1), box(1), COM);
        dueOne(5, box(-2, -1), box(-1), COM);
        dueOne(5, box(0, TINY), box(0, 1), DEF);
        dueOne(5, box(-TINY, 0), box(-1, 0), DEF);
        dueOne(5, box(-TINY, TINY), box(-1, 1), DEF);
        dueOne(5, box(TINY, FAR), box(1), DAC);
        dueOne(5, box(-FAR, -TINY), box(-1), DAC);
        dueOne(5, ALL, box(-1, 1), DEF);
    }

    private static void leastIntegerAbove() {
        sentence("ONE 6: the least integer not below x");
        dueOne(6, box(TINY), box(1), COM);
        dueOne(6, box(-TINY), box(0), COM);
        dueOne(6, box(0), box(0), DAC);
        dueOne(6, box(0, TINY), box(0, 1), DEF);
        dueOne(6, box(up(-1), -TINY), box(0), COM);
        dueOne(6, box(up(-1), 0), box(0), DAC);
        dueOne(6, box(-1, 0), box(-1, 0), DEF);
        dueOne(6, box(up(1), 2), box(2), DAC);
        dueOne(6, box(up(1), down(2)), box(2), COM);
        dueOne(6, box(2), box(2), DAC);
        dueOne(6, box(0x1p52 - 0.5), box(0x1p52), COM);
        dueOne(6, box(-0x1p52 + 0.5), box(-0x1p52 + 1), COM);
        dueOne(6, box(0x1p52 + 1), box(0x1p52 + 1), DAC);
        dueOne(6, box(0x1p51 + 0.5), box(0x1p51 + 1), COM);
        dueOne(6, box(-BIG, BIG), box(-BIG, BIG), DEF);
        dueOne(6, box(BIG), box(BIG), DAC);
        dueOne(6, box(0.5, FAR), box(1, FAR), DEF);
        dueOne(6, box(-FAR, -0.5), box(-FAR, 0), DEF);
    }

    private static void greatestIntegerBelow() {
        sentence("ONE 7: the greatest integer not above x");
        dueOne(7, box(TINY), box(0), COM);
        dueOne(7, box(-TINY), box(-1), COM);
        dueOne(7, box(0), box(0), DAC);
        dueOne(7, box(-TINY, 0), box(-1, 0), DEF);
        dueOne(7, box(TINY, down(1)), box(0), COM);
        dueOne(7, box(0, down(1)), box(0), DAC);
        dueOne(7, box(0, 1), box(0, 1), DEF);
        dueOne(7, box(-2, down(-1)), box(-2), DAC);
        dueOne(7, box(up(-2), down(-1)), box(-2), COM);
        dueOne(7, box(-0x1p52 + 0.5), box(-0x1p52), COM);
        dueOne(7, box(0x1p52 - 0.5), box(0x1p52 - 1), COM);
        dueOne(7, box(-0x1p52 - 1), box(-0x1p52 - 1), DAC);
        dueOne(7, box(-BIG), box(-BIG), DAC);
        dueOne(7, box(0.5, FAR), box(0, FAR), DEF);
        dueOne(7, box(-FAR, -0.5), box(-FAR, -1), DEF);
    }

    private static void withoutWhatIsBehindThePoint() {
        sentence("ONE 8: x without what is behind the point");
        dueOne(8, box(down(1)), box(0), COM);
        dueOne(8, box(up(-1)), box(0), COM);
        dueOne(8, box(up(-1), down(1)), box(0), COM);
        dueOne(8, box(0), box(0), COM);
        dueOne(8, box(1), box(1), DAC);
        dueOne(8, box(-1), box(-1), DAC);
        dueOne(8, box(1, down(2)), box(1), DAC);
        dueOne(8, box(up(-2), -1), box(-1), DAC);
        dueOne(8, box(up(1), down(2)), box(1), COM);
        dueOne(8, box(down(1), 1), box(0, 1), DEF);
        dueOne(8, box(-1, 0), box(-1, 0), DEF);
        dueOne(8, box(0, 1), box(0, 1), DEF);
        dueOne(8, box(-0x1p52 + 0.5, 0x1p52 - 0.5), box(-0x1p52 + 1, 0x1p52 - 1), DEF);
        dueOne(8, box(-BIG), box(-BIG), DAC);
        dueOne(8, ALL, ALL, DEF);
    }

    private static void nearestInteger() {
        sentence("ONE 9: the nearest integer, of two the even one");
        dueOne(9, box(0.5), box(0), DAC);
        dueOne(9, box(1.5), box(2), DAC);
        dueOne(9, box(2.5), box(2), DAC);
        dueOne(9, box(-0.5), box(0), DAC);
        dueOne(9, box(-1.5), box(-2), DAC);
        dueOne(9, box(-2.5), box(-2), DAC);
        dueOne(9, box(down(0.5)), box(0), COM);
        dueOne(9, box(up(0.5)), box(1), COM);
        dueOne(9, box(down(-0.5)), box(-1), COM);
        dueOne(9, box(down(1.5)), box(1), COM);
        dueOne(9, box(up(2.5)), box(3), COM);
        dueOne(9, box(0.5, up(0.5)), box(0, 1), DEF);
        dueOne(9, box(-0.5, 0.5), box(0), DAC);
        dueOne(9, box(1.5, 2.5), box(2), DAC);
        dueOne(9, box(up(1.5), 2.5), box(2), DAC);
        dueOne(9, box(1.5, down(2.5)), box(2), DAC);
        dueOne(9, box(up(1.5), down(2.5)), box(2), COM);
        dueOne(9, box(down(1.5), 2.5), box(1, 2), DEF);
        dueOne(9, box(0), box(0), COM);
        dueOne(9, box(TINY), box(0), COM);
        dueOne(9, box(0x1p52 - 0.5), box(0x1p52), DAC);
        dueOne(9, box(0x1p52 - 1.5), box(0x1p52 - 2), DAC);
        dueOne(9, box(0x1p51 + 0.5), box(0x1p51), DAC);
        dueOne(9, box(0x1p51 + 1.5), box(0x1p51 + 2), DAC);
        dueOne(9, box(0x1p52 + 1), box(0x1p52 + 1), COM);
        dueOne(9, box(BIG), box(BIG), COM);
        dueOne(9, ALL, ALL, DEF);
    }

    private static int stepMark(int operation, double x) {
        boolean whole = x == Math.rint(x);
        boolean jumps = operation == 9 ? Math.abs(x % 1) == 0.5 : whole && (operation != 8 || x != 0);
        return jumps ? DAC : COM;
    }

    private static void stepsAtEachScale() {
        sentence("ONE 6 to 9: integers at each scale of the floats");
        for (int scale = -1074; scale < 1024; scale++) {
            double power = Math.scalb(1.0, scale);
            for (double size : new double[] {power, up(power), down(power), 1.5 * power, 1.75 * power}) {
                for (double x : new double[] {size, -size}) {
                    double cut = x < 0 ? Math.ceil(x) : Math.floor(x);
                    dueOne(6, box(x), box(Math.ceil(x)), stepMark(6, x));
                    dueOne(7, box(x), box(Math.floor(x)), stepMark(7, x));
                    dueOne(8, box(x), box(cut), stepMark(8, x));
                    dueOne(9, box(x), box(Math.rint(x)), stepMark(9, x));
                }
            }
        }
    }

    private static void sumAndDifference() {
        sentence("TWO 0, 1: x + y, x - y");
        dueTwo(0, box(-FAR, 1), box(1, FAR), ALL, DAC);
        dueTwo(0, box(1, FAR), box(2, 3), box(3, FAR), DAC);
        dueTwo(0, box(BIG, FAR), box(BIG), box(BIG, FAR), DAC);
        dueTwo(0, box(1, FAR), box(-BIG), box(-BIG, FAR), DAC);
        dueTwo(0, box(-BIG), box(1, FAR), box(-BIG, FAR), DAC);
        dueTwo(0, box(0), box(-FAR, TINY), box(-FAR, TINY), DAC);
        dueTwo(1, box(BIG), box(1, FAR), box(-FAR, BIG), DAC);
        dueTwo(0, box(-BIG, BIG), box(-BIG, BIG), ALL, DAC);
        dueTwo(1, box(1, FAR), box(1, FAR), ALL, DAC);
        dueTwo(1, box(-BIG, BIG), box(-BIG, BIG), ALL, DAC);
        dueTwo(1, box(BIG), box(BIG), box(0), COM);
        dueTwo(1, box(1, 2), box(1, 2), box(-1, 1), COM);
        dueTwo(1, box(TINY), box(2 * TINY), box(-TINY), COM);
        dueTwo(1, box(BIG), box(down(BIG)), box(0x1p971), COM);
    }

    private static void product() {
        sentence("TWO 2: x * y");
        dueTwo(2, box(0), ALL, box(0), DAC);
        dueTwo(2, box(0, 1), ALL, ALL, DAC);
        dueTwo(2, box(0, FAR), box(0, FAR), box(0, FAR), DAC);
        dueTwo(2, box(0, FAR), box(-FAR, 0), box(-FAR, 0), DAC);
        dueTwo(2, box(-FAR, 0), box(-FAR, 0), box(0, FAR), DAC);
        dueTwo(2, box(TINY), box(1, FAR), box(TINY, FAR), DAC);
        dueTwo(2, box(1, FAR), box(-TINY), box(-FAR, -TINY), DAC);
        dueTwo(2, box(-2, 3), box(-5, 4), box(-15, 12), COM);
        dueTwo(2, box(-4, 1), box(-5, 2), box(-8, 20), COM);
        dueTwo(2, box(BIG), box(1), box(BIG), COM);
        dueTwo(2, box(BIG), box(up(1)), box(BIG, FAR), DAC);
        dueTwo(2, box(-TINY, TINY), box(TINY), box(-TINY, TINY), COM);
        dueTwo(2, box(1 + E), box(1 - E), box(1 - E / 2, 1), COM);
    }

    private static void quotient() {
        sentence("TWO 3: x / y, not where y is 0");
        dueTwo(3, box(0), box(0), NONE, TRV);
        dueTwo(3, box(1, 2), box(0), NONE, TRV);
        dueTwo(3, ALL, box(0), NONE, TRV);
        dueTwo(3, box(0), box(-1, 1), box(0), TRV);
        dueTwo(3, box(0), ALL, box(0), TRV);
        dueTwo(3, box(0), box(1, FAR), box(0), DAC);
        dueTwo(3, box(1, 2), box(0, TINY), box(BIG, FAR), TRV);
        dueTwo(3, box(1, 2), box(-TINY, 0), box(-FAR, -BIG), TRV);
        dueTwo(3, box(1, 2), box(-TINY, TINY), ALL, TRV);
        dueTwo(3, box(0, 1), box(0, 1), box(0, FAR), TRV);
        dueTwo(3, box(-1, 0), box(0, 1), box(-FAR, 0), TRV);
        dueTwo(3, box(0, 1), box(-1, 0), box(-FAR, 0), TRV);
        dueTwo(3, box(-1, 0), box(-1, 0), box(0, FAR), TRV);
        dueTwo(3, box(-1, 1), box(0, 1), ALL, TRV);
        dueTwo(3, box(-2, -1), box(0, 4), box(-FAR, -0.25), TRV);
        dueTwo(3, box(-2, -1), box(-4, 0), box(0.25, FAR), TRV);
        dueTwo(3, ALL, box(1, 2), ALL, DAC);
        dueTwo(3, box(1, FAR), box(1, FAR), box(0, FAR), DAC);
        dueTwo(3, box(-FAR, -1), box(-FAR, -1), box(0, FAR), DAC);
        dueTwo(3, box(1, 2), box(TINY, 1), box(1, FAR), DAC);
        dueTwo(3, box(1, 2), box(0, FAR), box(0, FAR), TRV);
        dueTwo(3, box(TINY), box(0, 1), box(TINY, FAR), TRV);
        dueTwo(3, box(1, FAR), box(BIG), box(0x1p-1024, FAR), DAC);
        dueTwo(3, box(0x1p1023), box(0.75), box(4.0 / 3 * 0x1p1023, up(4.0 / 3) * 0x1p1023), COM);
        dueTwo(3, box(BIG), box(down(1)), box(BIG, FAR), DAC);
        dueTwo(3, box(BIG), box(up(1)), box(down(down(BIG)), down(BIG)), COM);
        dueTwo(3, box(BIG), box(0.5), box(BIG, FAR), DAC);
        dueTwo(3, box(TINY), box(2), box(0, TINY), COM);
        dueTwo(3, box(-TINY), box(2), box(-TINY, 0), COM);
        dueTwo(3, box(TINY), box(TINY), box(1), COM);
        dueTwo(3, box(-TINY, 1), box(0.25, 2), box(-4 * TINY, 4), COM);
        dueTwo(3, box(-1, TINY), box(0.25, 2), box(-4, 4 * TINY), COM);
        dueTwo(3, box(-TINY, 1), box(-2, -0.25), box(-4, 4 * TINY), COM);
        dueTwo(3, box(-2, -TINY), box(0.5, 1), box(-4, -TINY), COM);
        dueTwo(3, box(BIG), box(BIG), box(1), COM);
        dueTwo(3, box(TINY), box(BIG, FAR), box(0, TINY), DAC);
    }

    private static void lesserAndGreater() {
        sentence("TWO 4, 5: the lesser one, the greater one");
        dueTwo(4, box(1, 5), box(2, 3), box(1, 3), COM);
        dueTwo(5, box(1, 5), box(2, 3), box(2, 5), COM);
        dueTwo(4, ALL, box(2, 3), box(-FAR, 3), DAC);
        dueTwo(5, ALL, box(2, 3), box(2, FAR), DAC);
        dueTwo(4, box(-TINY, 0), box(0), box(-TINY, 0), COM);
        dueTwo(5, box(-TINY, 0), box(0), box(0), COM);
    }

    private static void fused() {
        sentence("THREE: x * y + z");
        dueFused(box(0), ALL, box(1, 2), box(1, 2), DAC);
        dueFused(box(1, FAR), box(1), box(-FAR, 0), ALL, DAC);
        dueFused(box(TINY), box(1, FAR), box(-BIG), box(-BIG, FAR), DAC);
        dueFused(box(-BIG), box(BIG), box(1, FAR), box(-FAR, FAR), DAC);
        dueFused(box(BIG), box(2), box(-BIG), box(BIG), COM);
        dueFused(box(BIG), box(2), box(down(-BIG / 2)), box(BIG, FAR), DAC);
        dueFused(box(TINY), box(TINY), box(1), box(1, up(1)), COM);
        dueFused(box(TINY), box(-TINY), box(1), box(down(1), 1), COM);
        dueFused(box(BIG), box(BIG), box(TINY), box(BIG, FAR), DAC);
        dueFused(box(1 + E), box(1 - E), box(-1), box(-E * E), COM);
        dueFused(box(TINY), box(TINY), box(-TINY), box(-TINY, 0), COM);
        dueFused(box(-1, 2), box(-3, 4), box(5, 6), box(-1, 14), COM);
    }

    private static void powers() {
        sentence("POWERS: x multiplied n times, n from 0 to 40");
        duePower(box(-2, 1), 40, box(0, 0x1p40), COM);
        duePower(box(-2, 1), 39, box(-0x1p39, 1), COM);
        duePower(box(-2, -1), 40, box(1, 0x1p40), COM);
        duePower(box(3), 1, box(3), COM);
        duePower(box(0), 40, box(0), COM);
        duePower(box(TINY), 40, box(0, TINY), COM);
        duePower(box(-TINY), 39, box(-TINY, 0), COM);
        duePower(box(BIG), 2, box(BIG, FAR), DAC);
        duePower(box(-BIG), 39, box(-FAR, -BIG), DAC);
        duePower(ALL, 1, ALL, DAC);
        duePower(ALL, 39, ALL, DAC);
        duePower(ALL, 40, box(0, FAR), DAC);
        duePower(box(-FAR, -2), 2, box(4, FAR), DAC);
        duePower(box(0x1p-27), 39, box(0x1p-1053), COM);
        duePower(box(up(1)), 40, box(1 + 40 * E, 1 + 41 * E), COM);
        sentence("POWERS: 1 for n = 0 everywhere (of the empty one it is empty)");
        duePower(box(0), 0, box(1), COM);
        duePower(box(-1, 1), 0, box(1), COM);
        duePower(box(BIG), 0, box(1), COM);
        duePower(ALL, 0, box(1), DAC);
        duePower(NONE, 0, NONE, TRV);
        sentence("POWERS: 1 divided by that for n below 0, to -40, not at 0");
        duePower(box(0), -1, NONE, TRV);
        duePower(box(0), -40, NONE, TRV);
        duePower(box(0, 2), -1, box(0.5, FAR), TRV);
        duePower(box(-2, 0), -1, box(-FAR, -0.5), TRV);
        duePower(box(-2, 0), -2, box(0.25, FAR), TRV);
        duePower(box(-2, 4), -2, box(0.0625, FAR), TRV);
        duePower(box(-2, 4), -3, ALL, TRV);
        duePower(box(0, FAR), -1, box(0, FAR), TRV);
        duePower(box(-FAR, 0), -39, box(-FAR, 0), TRV);
        duePower(ALL, -2, box(0, FAR), TRV);
        duePower(ALL, -39, ALL, TRV);
        duePower(box(2), -40, box(0x1p-40), COM);
        duePower(box(-2), -39, box(-0x1p-39), COM);
        duePower(box(TINY), -1, box(BIG, FAR), DAC);
        duePower(box(-TINY), -39, box(-FAR, -BIG), DAC);
        duePower(box(BIG), -40, box(0, TINY), COM);
        duePower(box(-BIG), -39, box(-TINY, 0), COM);
        duePower(box(-FAR, -1), -39, box(-1, 0), DAC);
        duePower(box(-4, -2), -2, box(0.0625, 0.25), COM);
    }

    private static void setOperations() {
        sentence("other operations have the mark TRV");
        for (int operation = 6; operation < 12; operation++) {
            Tape t = new Tape();
            int x = cell(t, -1, 2), y = cell(t, -1, 2);
            due(operation + " of COM", t.markOf(t.two(operation, x, y)), TRV);
        }
        sentence("TWO 6: what is in both");
        dueTwo(6, box(1, 2), box(2, 3), box(2), TRV);
        dueTwo(6, box(1, 2), box(up(2), 3), NONE, TRV);
        dueTwo(6, box(2, 3), box(1, down(2)), NONE, TRV);
        dueTwo(6, ALL, box(1, 2), box(1, 2), TRV);
        dueTwo(6, box(-FAR, 1), box(0, FAR), box(0, 1), TRV);
        dueTwo(6, NONE, ALL, NONE, TRV);
        dueTwo(6, ALL, NONE, NONE, TRV);
        dueTwo(6, NONE, NONE, NONE, TRV);
        dueTwo(6, ALL, ALL, ALL, TRV);
        sentence("TWO 7: the tight one for what is in either");
        dueTwo(7, box(1, 2), box(4, 5), box(1, 5), TRV);
        dueTwo(7, box(4, 5), box(1, 2), box(1, 5), TRV);
        dueTwo(7, NONE, box(1, 2), box(1, 2), TRV);
        dueTwo(7, box(1, 2), NONE, box(1, 2), TRV);
        dueTwo(7, NONE, NONE, NONE, TRV);
        dueTwo(7, NONE, ALL, ALL, TRV);
        dueTwo(7, box(-FAR, 1), box(BIG, FAR), ALL, TRV);
    }

    private static void cancel() {
        sentence("TWO 8, 9: if x is empty and y bounded (or empty), the empty one");
        for (int operation = 8; operation < 10; operation++) {
            dueTwo(operation, NONE, box(1, 2), NONE, TRV);
            dueTwo(operation, NONE, box(-BIG, BIG), NONE, TRV);
            dueTwo(operation, NONE, NONE, NONE, TRV);
        }
        sentence("TWO 8, 9: if either is unbounded, or y is empty, entire");
        for (int operation = 8; operation < 10; operation++) {
            dueTwo(operation, NONE, box(1, FAR), ALL, TRV);
            dueTwo(operation, NONE, box(-FAR, 1), ALL, TRV);
            dueTwo(operation, NONE, ALL, ALL, TRV);
            dueTwo(operation, box(1, 2), NONE, ALL, TRV);
            dueTwo(operation, ALL, NONE, ALL, TRV);
            dueTwo(operation, box(1, FAR), box(1, 2), ALL, TRV);
            dueTwo(operation, box(-FAR, 1), box(1, 2), ALL, TRV);
            dueTwo(operation, box(1, 2), box(1, FAR), ALL, TRV);
            dueTwo(operation, box(1, 2), box(-FAR, 1), ALL, TRV);
            dueTwo(operation, box(1, FAR), box(1, FAR), ALL, TRV);
            dueTwo(operation, ALL, ALL, ALL, TRV);
        }
        sentence("TWO 8, 9: if y is wider than x (by the exact widths), entire");
        dueTwo(8, box(0, 1), box(-TINY, 1), ALL, TRV);
        dueTwo(8, box(-TINY, 1), box(0, 1), box(-TINY, 0), TRV);
        dueTwo(8, box(-BIG, down(BIG)), box(-BIG, BIG), ALL, TRV);
        dueTwo(8, box(-BIG, BIG), box(-BIG, down(BIG)), box(0, 0x1p971), TRV);
        dueTwo(8, box(1), box(5), box(-4), TRV);
        dueTwo(8, box(1), box(1, up(1)), ALL, TRV);
        dueTwo(9, box(0, 1), box(-1, TINY), ALL, TRV);
        dueTwo(9, box(-TINY, 1), box(-1, 0), box(-TINY, 0), TRV);
        dueTwo(9, box(-BIG, BIG), box(-BIG, BIG), box(0), TRV);
        sentence("TWO 8, 9: otherwise from the lows' difference rounded down to the highs' rounded up");
        dueTwo(8, box(1, 5), box(2, 3), box(-1, 2), TRV);
        dueTwo(8, box(1, 2), box(TINY, 1), box(down(1), 1), TRV);
        dueTwo(8, box(-1, 1), box(0, TINY), box(-1, 1), TRV);
        dueTwo(8, box(-1, 1), box(-TINY, 0), box(-1, 1), TRV);
        dueTwo(8, box(-1, 2), box(-TINY), box(-1, up(2)), TRV);
        dueTwo(8, box(BIG), box(-BIG), box(BIG, FAR), TRV);
        dueTwo(8, box(-BIG), box(BIG), box(-FAR, -BIG), TRV);
        dueTwo(8, box(-BIG, BIG), box(0), box(-BIG, BIG), TRV);
        dueTwo(9, box(1, 5), box(2, 3), box(4, 7), TRV);
        dueTwo(9, box(BIG), box(TINY), box(BIG, FAR), TRV);
    }

    private static void dueParts(double[] x, double[] y, double[] first, double[] second) {
        dueTwo(10, x, y, first, TRV);
        dueTwo(11, x, y, second, TRV);
    }

    private static void parts() {
        sentence("TWO 10, 11: an empty operand: both empty");
        dueParts(NONE, box(1, 2), NONE, NONE);
        dueParts(NONE, box(-1, 1), NONE, NONE);
        dueParts(NONE, box(0), NONE, NONE);
        dueParts(box(1, 2), NONE, NONE, NONE);
        dueParts(box(0), NONE, NONE, NONE);
        dueParts(NONE, NONE, NONE, NONE);
        sentence("TWO 10, 11: 0 is not in y: 10 is x / y, with the mark of 3, and 11 empty (TRV)");
        dueTwo(10, box(1, 2), box(2, 4), box(0.25, 1), COM);
        dueTwo(10, box(-1, 2), box(TINY, 4), ALL, DAC);
        dueTwo(10, box(1, 2), box(-FAR, -TINY), box(-FAR, 0), DAC);
        dueTwo(10, box(0), box(-2, -TINY), box(0), COM);
        dueTwo(10, ALL, box(1), ALL, DAC);
        dueTwo(11, box(1, 2), box(2, 4), NONE, TRV);
        dueTwo(11, box(-1, 2), box(-4, -TINY), NONE, TRV);
        Tape t = new Tape();
        due("10 of DEF", t.markOf(t.two(10, t.mark(cell(t, 1, 2), DEF), cell(t, 1, 2))), DEF);
        due("10 over DEF", t.markOf(t.two(10, cell(t, 1, 2), t.mark(cell(t, 1, 2), DEF))), DEF);
        sentence("TWO 10, 11: 0 in y and in x: 10 is entire, 11 empty");
        dueParts(box(0), box(0), ALL, NONE);
        dueParts(box(0), box(-1, 1), ALL, NONE);
        dueParts(box(0, 1), box(0, 1), ALL, NONE);
        dueParts(box(-1, 0), box(-1, 0), ALL, NONE);
        dueParts(box(-1, 1), box(0), ALL, NONE);
        dueParts(ALL, ALL, ALL, NONE);
        sentence("TWO 10, 11: y is just 0 (0 not in x): both empty");
        dueParts(box(TINY), box(0), NONE, NONE);
        dueParts(box(-FAR, -TINY), box(0), NONE, NONE);
        sentence("TWO 10, 11: y has numbers above 0 and below: 10 is the part below 0 and 11 that above");
        dueParts(box(1, 2), box(-4, 8), box(-FAR, -0.25), box(0.125, FAR));
        dueParts(box(-2, -1), box(-4, 8), box(-FAR, -0.125), box(0.25, FAR));
        dueParts(box(TINY), box(-TINY, TINY), box(-FAR, -1), box(1, FAR));
        dueParts(box(1), box(-TINY, TINY), box(-FAR, -BIG), box(BIG, FAR));
        dueParts(box(TINY), box(-BIG, BIG), box(-FAR, 0), box(0, FAR));
        dueParts(box(1, 2), ALL, box(-FAR, 0), box(0, FAR));
        dueParts(box(-FAR, -3), box(-FAR, 3), box(-FAR, -1), box(0, FAR));
        dueParts(box(1, FAR), box(-3, 3), box(-FAR, -1.0 / 3), box(1.0 / 3, FAR));
        sentence("TWO 10, 11: otherwise 10 is the one part there is and 11 is empty");
        dueParts(box(1, 2), box(0, 4), box(0.25, FAR), NONE);
        dueParts(box(1, 2), box(-4, 0), box(-FAR, -0.25), NONE);
        dueParts(box(-2, -1), box(0, 4), box(-FAR, -0.25), NONE);
        dueParts(box(-2, -1), box(-4, 0), box(0.25, FAR), NONE);
        dueParts(box(TINY), box(0, FAR), box(0, FAR), NONE);
        dueParts(box(-TINY), box(0, FAR), box(-FAR, 0), NONE);
        dueParts(box(1), box(0, TINY), box(BIG, FAR), NONE);
        dueParts(box(1), box(-TINY, 0), box(-FAR, -BIG), NONE);
    }

    private static String told(Tape t, int cell) {
        return Long.toHexString(t.low(cell)) + " " + Long.toHexString(t.high(cell)) + " " + t.markOf(cell);
    }

    private static int applyOrRead(Tape t, int which) {
        String[] texts = {"[0.1,1/3]_def", "[1e999]", "3??u", "[empty]", "[1,2"};
        return which < 26 ? apply(t, which, 0, 1, 2) : read(t, texts[which - 26]);
    }

    private static Tape operands() {
        Tape t = new Tape();
        cell(t, 0.1, 3);
        cell(t, 0.7, FAR);
        cell(t, -5, 0.3);
        return t;
    }

    private static void apartFromOneAnother() {
        sentence("OPERATIONS make a new cell from others, whatever was reckoned before");
        for (int first = 0; first < 31; first++) {
            for (int second = 0; second < 31; second++) {
                Tape fresh = operands(), used = operands();
                String want = told(fresh, applyOrRead(fresh, second)), before = told(used, applyOrRead(used, first));
                used.number(0, 1);
                used.write(0, 7);
                due(first + ", " + second, told(used, applyOrRead(used, second)), want);
                due(first + " stays", told(used, 3), before);
                due("astray()", used.astray(), 0);
            }
        }
    }

    public static void main(String[] args) {
        illOperands();
        emptyOperands();
        leastMark();
        bounds();
        negative();
        reciprocal();
        square();
        root();
        size();
        sign();
        leastIntegerAbove();
        greatestIntegerBelow();
        withoutWhatIsBehindThePoint();
        nearestInteger();
        stepsAtEachScale();
        sumAndDifference();
        product();
        quotient();
        lesserAndGreater();
        fused();
        powers();
        setOperations();
        cancel();
        parts();
        apartFromOneAnother();
        finish();
    }
}
