import java.math.BigInteger;

/**
 * Holds arithmetic against a slow one of its own: quotients of BigIntegers, and floats found by halving
 * the row of all floats. The cells come from a fixed row of pseudo-random numbers.
 */
public final class ArithmeticOracle {
    private static final long INF = 0x7FF0000000000000L;
    private static int wrong = 0, seen = 0;
    private static long seed = 20261115L;

    /** A quotient, or an infinity (den 0, num 1 or -1). */
    private record Q(BigInteger num, BigInteger den) implements Comparable<Q> {
        static final Q ZERO = whole(0), PLUS = new Q(BigInteger.ONE, BigInteger.ZERO);
        static final Q MINUS = new Q(BigInteger.ONE.negate(), BigInteger.ZERO);

        static Q whole(long n) {
            return new Q(BigInteger.valueOf(n), BigInteger.ONE);
        }

        static Q of(double d) {
            if (Double.isInfinite(d)) return d > 0 ? PLUS : MINUS;
            if (d == 0) return ZERO;
            int e = Math.getExponent(d) < -1022 ? -1074 : Math.getExponent(d) - 52;
            long bits = Double.doubleToLongBits(d), fraction = bits & (1L << 52) - 1;
            long size = Math.getExponent(d) < -1022 ? fraction : fraction + (1L << 52);
            BigInteger m = BigInteger.valueOf(d < 0 ? -size : size);
            return e < 0 ? new Q(m, BigInteger.ONE.shiftLeft(-e)) : new Q(m.shiftLeft(e), BigInteger.ONE);
        }

        boolean infinite() { return den.signum() == 0; }
        int signum() { return num.signum(); }
        Q negate() { return new Q(num.negate(), den); }

        Q plus(Q o) {
            if (infinite()) return this;
            if (o.infinite()) return o;
            return new Q(num.multiply(o.den).add(o.num.multiply(den)), den.multiply(o.den));
        }

        Q times(Q o) {
            if (signum() == 0 || o.signum() == 0) return ZERO;
            if (infinite() || o.infinite()) return signum() * o.signum() > 0 ? PLUS : MINUS;
            return new Q(num.multiply(o.num), den.multiply(o.den));
        }

        /** 1 / this; near is the infinity that zero leads to. */
        Q turned(Q near) {
            if (infinite()) return ZERO;
            if (signum() == 0) return near;
            return signum() > 0 ? new Q(den, num) : new Q(den.negate(), num.negate());
        }

        Q raised(int n) {
            Q r = whole(1);
            for (int i = 0; i < n; i++) r = r.times(this);
            return r;
        }

        public int compareTo(Q o) {
            if (infinite() || o.infinite()) {
                int a = infinite() ? 2 * signum() : 0, b = o.infinite() ? 2 * o.signum() : 0;
                return Integer.compare(a, b);
            }
            return num.multiply(o.den).compareTo(o.num.multiply(den));
        }
    }

    /** An interval of quotients; null is the empty one. */
    private record Set(Q low, Q high) { }

    private static Set hull(Set a, Set b) {
        if (a == null) return b;
        if (b == null) return a;
        return new Set(a.low.compareTo(b.low) < 0 ? a.low : b.low, a.high.compareTo(b.high) > 0 ? a.high : b.high);
    }

    private static Set meet(Set a, Q from, Q to) {
        if (a == null) return null;
        Q low = a.low.compareTo(from) > 0 ? a.low : from, high = a.high.compareTo(to) < 0 ? a.high : to;
        return low.compareTo(high) <= 0 ? new Set(low, high) : null;
    }

    private static Set point(Q q) {
        return new Set(q, q);
    }

    private static Set times(Set a, Set b) {
        if (a == null || b == null) return null;
        Set r = null;
        for (Q p : new Q[] {a.low, a.high}) for (Q q : new Q[] {b.low, b.high}) r = hull(r, point(p.times(q)));
        return r;
    }

    private static Set plus(Set a, Set b) {
        return a == null || b == null ? null : new Set(a.low.plus(b.low), a.high.plus(b.high));
    }

    private static Set negate(Set a) {
        return a == null ? null : new Set(a.high.negate(), a.low.negate());
    }

    /** 1 / x over the part above 0 and the part below, each of which turns the order around. */
    private static Set turned(Set a) {
        if (a == null) return null;
        Set above = a.high.signum() > 0 ? meet(a, Q.ZERO, Q.PLUS) : null;
        Set below = a.low.signum() < 0 ? meet(a, Q.MINUS, Q.ZERO) : null;
        if (above != null) above = new Set(above.high.turned(Q.PLUS), above.low.turned(Q.PLUS));
        if (below != null) below = new Set(below.high.turned(Q.MINUS), below.low.turned(Q.MINUS));
        return hull(above, below);
    }

    private static Set over(Set a, Set b) {
        if (a == null || b == null) return null;
        Set r = null;
        Set above = b.high.signum() > 0 ? turned(meet(b, Q.ZERO, Q.PLUS)) : null;
        Set below = b.low.signum() < 0 ? turned(meet(b, Q.MINUS, Q.ZERO)) : null;
        r = hull(r, times(a, above));
        return hull(r, times(a, below));
    }

    private static Set raised(Set a, int n) {
        if (a == null) return null;
        if (n < 0) return turnedPower(a, -n);
        Set r = hull(point(a.low.raised(n)), point(a.high.raised(n)));
        if (n == 0) return point(Q.whole(1));
        boolean zero = a.low.signum() <= 0 && a.high.signum() >= 0;
        return zero ? hull(r, point(Q.ZERO)) : r;
    }

    private static Set turnedPower(Set a, int n) {
        Set above = a.high.signum() > 0 ? turned(raised(meet(a, Q.ZERO, Q.PLUS), n)) : null;
        Set part = a.low.signum() < 0 ? meet(a, Q.MINUS, Q.ZERO) : null;
        Set below = part == null ? null : turned(raised(part, n));
        return hull(above, below);
    }

    private static double value(long rank) {
        return Double.longBitsToDouble(rank < 0 ? -rank | Long.MIN_VALUE : rank);
    }

    private interface Test { boolean holds(Q float64); }

    /** The greatest rank whose float passes, where all below one that passes pass as well. */
    private static long greatest(Test test) {
        long from = -INF, to = INF;
        while (from < to) {
            long middle = from + ((to - from) >>> 1) + ((to - from) & 1);
            if (test.holds(Q.of(value(middle)))) from = middle; else to = middle - 1;
        }
        return from;
    }

    private static long down(Q q) {
        return greatest(f -> f.compareTo(q) <= 0);
    }

    private static long up(Q q) {
        return -down(q.negate());
    }

    private static long rootDown(Q q) {
        return greatest(f -> f.signum() < 0 || f.times(f).compareTo(q) <= 0);
    }

    private static long rootUp(Q q) {
        long r = rootDown(q);
        Q f = Q.of(value(r));
        return f.times(f).compareTo(q) == 0 ? r : r + 1;
    }

    private static long next() {
        seed = seed * 6364136223846793005L + 1442695040888963407L;
        long x = seed;
        x ^= x >>> 32;
        x *= 0x9E3779B97F4A7C15L;
        return x ^ (x >>> 29);
    }

    private static int below(int n) {
        return (int) Math.floorMod(next(), (long) n);
    }

    private static double someFloat() {
        switch (below(10)) {
            case 0: return 0;
            case 1: return below(41) - 20;
            case 2: return (below(81) - 40) / 2.0;
            case 3: return Math.scalb(1.0, below(2098) - 1074) * (below(2) == 0 ? 1 : -1);
            case 4: return value((below(2) == 0 ? 1 : -1) * (INF - 1 - below(3)));
            case 5: return value(below(9) - 4);
            case 6: return value((below(2) == 0 ? 1 : -1) * (0x3FF0000000000000L + below(9) - 4));
            case 7: return value((next() & 0x000FFFFFFFFFFFFFL) * (below(2) == 0 ? 1 : -1));
            case 8: return (below(2) == 0 ? 1 : -1) * value((next() & 0x000FFFFFFFFFFFFFL) | (long) (1003 + below(60)) << 52);
            default:
                double d = Double.longBitsToDouble(next());
                return Double.isNaN(d) ? 0.1 : d;
        }
    }

    private static long bits(double d) {
        return d == 0 ? 0 : Double.doubleToLongBits(d);
    }

    private static int someCell(Tape t) {
        int kind = below(14);
        double a = someFloat(), b = kind < 3 ? a : someFloat();
        double low = Math.min(a, b), high = Math.max(a, b);
        if (kind == 3) low = Double.NEGATIVE_INFINITY;
        if (kind == 4) high = Double.POSITIVE_INFINITY;
        if (kind == 5) low = 0;
        if (kind == 6) high = 0;
        if (low > high || low == Double.POSITIVE_INFINITY || high == Double.NEGATIVE_INFINITY) low = high = 3;
        int made = t.cell(bits(low), bits(high));
        if (kind == 7) {
            int one = t.cell(bits(1), bits(1)), other = t.cell(bits(2), bits(2));
            made = t.two(6, one, other);
        }
        return below(4) == 0 ? t.mark(made, 1 + below(4)) : made;
    }

    private static Set setOf(Tape t, int c) {
        if (t.is(c, 0) == 1) return null;
        return new Set(Q.of(Double.longBitsToDouble(t.low(c))), Q.of(Double.longBitsToDouble(t.high(c))));
    }

    private static long rank(long bits) {
        return bits < 0 ? -(bits & Long.MAX_VALUE) : bits;
    }

    private static void due(Tape t, String what, int made, long low, long high, int mark) {
        seen++;
        if (rank(t.low(made)) == low && rank(t.high(made)) == high && t.markOf(made) == mark) return;
        wrong++;
        System.out.println(what + " answered " + value(rank(t.low(made))) + " .. " + value(rank(t.high(made)))
            + " mark " + t.markOf(made) + ", due is " + value(low) + " .. " + value(high) + " mark " + mark);
    }

    private static String tell(Tape t, int... cs) {
        StringBuilder b = new StringBuilder();
        for (int c : cs) {
            b.append(" [").append(Double.longBitsToDouble(t.low(c))).append(", ");
            b.append(Double.longBitsToDouble(t.high(c))).append("]_").append(t.markOf(c));
        }
        return b.toString();
    }

    private static boolean hasZero(Set s) {
        return s.low.signum() <= 0 && s.high.signum() >= 0;
    }

    private static boolean bounded(Set s) {
        return !s.low.infinite() && !s.high.infinite();
    }

    /** The mark of a result without steps, by whether it is defined all over the box. */
    private static int markOf(Tape t, Set result, boolean defined, long low, long high, int... cs) {
        int mark = 4;
        for (int c : cs) {
            mark = Math.min(mark, t.markOf(c));
            Set s = setOf(t, c);
            if (s == null) return 1;
            if (!bounded(s)) mark = Math.min(mark, 3);
        }
        if (result == null || !defined) return 1;
        return low == -INF || high == INF ? Math.min(mark, 3) : mark;
    }

    private static void dueSet(Tape t, String what, int made, Set result, boolean defined, int... cs) {
        long low = result == null ? INF : down(result.low), high = result == null ? -INF : up(result.high);
        due(t, what + tell(t, cs), made, low, high, markOf(t, result, defined, low, high, cs));
    }

    private static double step(int operation, double d) {
        double r = operation == 5 ? Math.signum(d) : operation == 6 ? Math.ceil(d) : operation == 7 ? Math.floor(d)
            : operation == 8 ? (d < 0 ? Math.ceil(d) : Math.floor(d)) : Math.rint(d);
        return r + 0.0;
    }

    /** Whether a step has another value as near as one likes. */
    private static boolean jumps(int operation, double d) {
        if (operation == 5) return d == 0;
        if (operation == 9) return Math.abs(d % 1) == 0.5;
        return d == Math.rint(d) && (operation != 8 || d != 0);
    }

    private static void dueStep(Tape t, int operation, int c) {
        int made = t.one(operation, c);
        String what = "one(" + operation + ")" + tell(t, c);
        if (t.is(c, 0) == 1) {
            due(t, what, made, INF, -INF, 1);
            return;
        }
        double a = Double.longBitsToDouble(t.low(c)), b = Double.longBitsToDouble(t.high(c));
        double low = step(operation, a), high = step(operation, b);
        int own = low != high ? 2 : jumps(operation, a) || jumps(operation, b) ? 3 : t.is(c, 3) == 1 ? 4 : 3;
        due(t, what, made, rank(bits(low)), rank(bits(high)), Math.min(own, t.markOf(c)));
    }

    private static void dueRoot(Tape t, int c) {
        int made = t.one(3, c);
        Set s = setOf(t, c), in = meet(s, Q.ZERO, Q.PLUS);
        boolean defined = s != null && s.low.signum() >= 0;
        long low = in == null ? INF : rootDown(in.low), high = in == null ? -INF : in.high.infinite() ? INF : rootUp(in.high);
        due(t, "root" + tell(t, c), made, low, high, markOf(t, in, defined, low, high, c));
    }

    private static Set size(Set s) {
        if (s == null) return null;
        Set above = meet(s, Q.ZERO, Q.PLUS), below = meet(s, Q.MINUS, Q.ZERO);
        return hull(above, negate(below));
    }

    private static Set lesser(Set a, Set b) {
        if (a == null || b == null) return null;
        return new Set(a.low.compareTo(b.low) < 0 ? a.low : b.low, a.high.compareTo(b.high) < 0 ? a.high : b.high);
    }

    private static void dueOnes(Tape t, int c) {
        Set s = setOf(t, c);
        dueSet(t, "-", t.one(0, c), negate(s), true, c);
        dueSet(t, "1/", t.one(1, c), turned(s), s != null && !hasZero(s), c);
        dueSet(t, "sqr", t.one(2, c), raised(s, 2), true, c);
        dueRoot(t, c);
        dueSet(t, "abs", t.one(4, c), size(s), true, c);
        for (int operation = 5; operation <= 9; operation++) dueStep(t, operation, c);
    }

    private static void dueTwos(Tape t, int c, int d) {
        Set a = setOf(t, c), b = setOf(t, d);
        dueSet(t, "+", t.two(0, c, d), plus(a, b), true, c, d);
        dueSet(t, "-", t.two(1, c, d), plus(a, negate(b)), true, c, d);
        dueSet(t, "*", t.two(2, c, d), times(a, b), true, c, d);
        dueSet(t, "/", t.two(3, c, d), over(a, b), b != null && !hasZero(b), c, d);
        dueSet(t, "min", t.two(4, c, d), lesser(a, b), true, c, d);
        dueSet(t, "max", t.two(5, c, d), negate(lesser(negate(a), negate(b))), true, c, d);
        dueSets(t, c, d, a, b);
    }

    private static void dueTrivial(Tape t, String what, int made, Set result, int c, int d) {
        long low = result == null ? INF : down(result.low), high = result == null ? -INF : up(result.high);
        due(t, what + tell(t, c, d), made, low, high, 1);
    }

    private static Set cancel(Set a, Set b) {
        Set entire = new Set(Q.MINUS, Q.PLUS);
        if (a == null) return b == null || bounded(b) ? null : entire;
        if (b == null || !bounded(a) || !bounded(b)) return entire;
        Q wideA = a.high.plus(a.low.negate()), wideB = b.high.plus(b.low.negate());
        if (wideB.compareTo(wideA) > 0) return entire;
        return new Set(a.low.plus(b.low.negate()), a.high.plus(b.high.negate()));
    }

    private static void dueSets(Tape t, int c, int d, Set a, Set b) {
        dueTrivial(t, "meet", t.two(6, c, d), b == null ? null : meet(a, b.low, b.high), c, d);
        dueTrivial(t, "hull", t.two(7, c, d), hull(a, b), c, d);
        dueTrivial(t, "cancel", t.two(8, c, d), cancel(a, b), c, d);
        dueTrivial(t, "cancel-", t.two(9, c, d), cancel(a, negate(b)), c, d);
        if (a == null || b == null) {
            dueTrivial(t, "10", t.two(10, c, d), null, c, d);
            dueTrivial(t, "11", t.two(11, c, d), null, c, d);
        } else if (!hasZero(b)) {
            dueSet(t, "10", t.two(10, c, d), over(a, b), true, c, d);
            dueTrivial(t, "11", t.two(11, c, d), null, c, d);
        } else if (hasZero(a)) {
            dueTrivial(t, "10", t.two(10, c, d), new Set(Q.MINUS, Q.PLUS), c, d);
            dueTrivial(t, "11", t.two(11, c, d), null, c, d);
        } else {
            // z above 0 comes from the part of y on x's side of 0, z below it from the other one.
            Set up = b.high.signum() > 0 ? over(a, meet(b, Q.ZERO, Q.PLUS)) : null;
            Set down = b.low.signum() < 0 ? over(a, meet(b, Q.MINUS, Q.ZERO)) : null;
            Set above = a.low.signum() > 0 ? up : down, under = a.low.signum() > 0 ? down : up;
            boolean both = above != null && under != null;
            dueTrivial(t, "10", t.two(10, c, d), under != null ? under : above, c, d);
            dueTrivial(t, "11", t.two(11, c, d), both ? above : null, c, d);
        }
    }

    private static void round(int rounds) {
        for (int i = 0; i < rounds; i++) {
            Tape t = new Tape();
            int c = someCell(t), d = someCell(t), e = someCell(t);
            dueOnes(t, c);
            dueTwos(t, c, d);
            dueSet(t, "fused", t.fused(c, d, e), plus(times(setOf(t, c), setOf(t, d)), setOf(t, e)), true, c, d, e);
            int n = below(3) == 0 ? below(81) - 40 : below(13) - 6;
            Set s = setOf(t, c);
            dueSet(t, "power " + n, t.power(c, n), raised(s, n), n >= 0 || s != null && !hasZero(s), c);
            if (t.astray() != 0) {
                wrong++;
                System.out.println("astray() answered " + t.astray() + tell(t, c, d, e));
            }
        }
    }

    public static void main(String[] args) {
        round(args.length > 0 ? Integer.parseInt(args[0]) : 400);
        System.out.println(wrong == 0 ? seen + " results are as due" : wrong + " of " + seen + " results are not as due");
        if (wrong != 0) System.exit(1);
    }
}
