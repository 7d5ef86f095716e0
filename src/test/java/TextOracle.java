import java.math.BigDecimal;
import java.math.BigInteger;
import java.math.MathContext;
import java.math.RoundingMode;

/**
 * Holds texts that are read and written, and the floats of a cell, against BigDecimals.
 * The texts come from a fixed row of pseudo-random numbers.
 */
public final class TextOracle {
    private static final long INF = 0x7FF0000000000000L, NAN = 9221120237041090560L;
    private static final BigInteger TEN = BigInteger.TEN, TWO = BigInteger.TWO;
    private static final String[] MARKS = {"nai", "trv", "def", "dac", "com"};
    private static int wrong = 0, seen = 0;
    private static long seed = 77L;

    /** A number that a text tells, as a quotient. */
    private record Told(String text, BigInteger num, BigInteger den) {
        int order(Told o) {
            return num.multiply(o.den).compareTo(o.num.multiply(den));
        }

        int order(double d) {
            if (Double.isInfinite(d)) return d > 0 ? -1 : 1;
            BigDecimal f = new BigDecimal(d);
            BigInteger fn = f.unscaledValue(), fd = BigInteger.ONE;
            if (f.scale() > 0) fd = TEN.pow(f.scale()); else fn = fn.multiply(TEN.pow(-f.scale()));
            return num.multiply(fd).compareTo(fn.multiply(den));
        }
    }

    private static long next() {
        seed = seed * 6364136223846793005L + 1442695040888963407L;
        long x = seed;
        x ^= x >>> 32;
        x *= 0x9E3779B97F4A7C15L;
        return x ^ (x >>> 29);
    }

    private static int below(int n) {
        return (int) Math.floorMod(next(), (long) n);
    }

    private static double value(long rank) {
        return Double.longBitsToDouble(rank < 0 ? -rank | Long.MIN_VALUE : rank);
    }

    private static long rank(long bits) {
        return bits < 0 ? -(bits & Long.MAX_VALUE) : bits;
    }

    private static void fail(String what, Object got, Object want) {
        wrong++;
        System.out.println(what + " answered " + got + ", due is " + want);
    }

    private static void due(String what, Object got, Object want) {
        seen++;
        if (!got.equals(want)) fail(what, got, want);
    }

    private static int read(Tape t, String text) {
        for (int at = 0; at < text.length(); at += 20) {
            int[] four = new int[5];
            for (int i = 0; i < 20; i++) {
                int c = at + i < text.length() ? text.charAt(at + i) : 0;
                four[i / 4] |= c << (24 - 8 * (i % 4));
            }
            t.feed(four[0], four[1], four[2], four[3], four[4]);
        }
        if (text.length() % 20 != 0) t.end(text.length() % 20);
        return t.literal();
    }

    private static String written(Tape t, int cell, int digits) {
        int n = t.write(cell, digits);
        StringBuilder b = new StringBuilder();
        for (int i = 0; i < n; i++) b.append((char) (t.word(i / 8) >>> (8 * (i % 8)) & 255));
        return b.toString();
    }

    private static String digits(int n, int base) {
        StringBuilder b = new StringBuilder();
        int kind = below(5);
        for (int i = 0; i < n; i++) {
            int d = kind == 0 ? 0 : kind == 1 ? base - 1 : below(base);
            b.append(Character.forDigit(d, base));
        }
        return b.toString();
    }

    private static int length() {
        int kind = below(10);
        return kind == 0 ? 1 + below(150) : kind < 4 ? 1 + below(30) : 1 + below(4);
    }

    private static String mixed(String s) {
        StringBuilder b = new StringBuilder();
        for (char c : s.toCharArray()) b.append(below(5) == 0 ? Character.toUpperCase(c) : c);
        return b.toString();
    }

    private static String sign(int s) {
        return s < 0 ? "-" : below(3) == 0 ? "+" : "";
    }

    private static String pointed(String row, int behind) {
        int at = row.length() - behind;
        return behind == 0 && below(2) == 0 ? row : row.substring(0, at) + "." + row.substring(at);
    }

    private static Told scaled(String text, BigInteger n, int base, int power) {
        BigInteger b = BigInteger.valueOf(base).pow(Math.abs(power));
        return power < 0 ? new Told(text, n, b) : new Told(text, n.multiply(b), BigInteger.ONE);
    }

    private static int tenPower() {
        int kind = below(6);
        return kind == 0 ? below(1999) - 999 : kind == 1 ? 300 + below(20) : kind == 2 ? -330 + below(30) : below(61) - 30;
    }

    private static String powerText(int power) {
        String row = Integer.toString(Math.abs(power));
        if (row.length() < 3 && below(4) == 0) row = "0" + row;
        return sign(power) + row;
    }

    private static Told decimal() {
        int s = below(2) * 2 - 1;
        String row = digits(length(), 10);
        int behind = below(row.length() + 1), power = below(3) == 0 ? 0 : tenPower();
        String text = sign(s) + pointed(row, behind) + (power == 0 && below(2) == 0 ? "" : "e" + powerText(power));
        return scaled(text, new BigInteger(row).multiply(BigInteger.valueOf(s)), 10, power - behind);
    }

    private static Told hexadecimal() {
        int s = below(2) * 2 - 1, kind = below(5);
        String row = digits(length(), 16);
        int behind = below(row.length() + 1);
        int power = kind == 0 ? below(19999) - 9999 : kind == 1 ? 1000 + below(40) : kind == 2 ? -1080 + below(30) : below(61) - 30;
        String text = sign(s) + "0x" + pointed(row, behind) + "p" + powerText(power);
        return scaled(text, new BigInteger(row, 16).multiply(BigInteger.valueOf(s)), 2, power - 4 * behind);
    }

    private static Told fraction() {
        int s = below(2) * 2 - 1;
        String top = digits(length(), 10), bottom = digits(length(), 10);
        BigInteger den = new BigInteger(bottom);
        if (den.signum() == 0) { bottom += "3"; den = BigInteger.valueOf(3); }
        return new Told(sign(s) + top + "/" + bottom, new BigInteger(top).multiply(BigInteger.valueOf(s)), den);
    }

    private static Told number() {
        int kind = below(4);
        return kind == 0 ? hexadecimal() : kind == 1 ? fraction() : decimal();
    }

    private static String blanks() {
        return below(4) == 0 ? below(2) == 0 ? " " : "\t " : "";
    }

    private static boolean isTight(Told low, Told high, double from, double to) {
        boolean fromFine = low == null ? from == Double.NEGATIVE_INFINITY
            : low.order(from) >= 0 && low.order(Math.nextUp(from)) < 0;
        boolean toFine = high == null ? to == Double.POSITIVE_INFINITY
            : high.order(to) <= 0 && high.order(Math.nextDown(to)) > 0;
        return fromFine && toFine;
    }

    private static void dueRead(String bare, Told low, Told high, boolean told) {
        int given = below(9);
        String text = blanks() + mixed(bare + (given > 4 ? "" : "_" + (given == 0 ? "ill" : MARKS[given]))) + blanks();
        if (text.length() > 400) return;
        Tape t = new Tape();
        int c = read(t, text);
        boolean ill = given == 0 || !told && given == 4 || low != null && high != null && low.order(high) > 0;
        seen++;
        if (ill) {
            if (t.markOf(c) != 0 || t.low(c) != NAN || t.high(c) != NAN) fail(text, t.markOf(c), "ill");
            return;
        }
        double from = Double.longBitsToDouble(t.low(c)), to = Double.longBitsToDouble(t.high(c));
        int strongest = Double.isInfinite(from) || Double.isInfinite(to) ? 3 : 4;
        int mark = given > 4 ? strongest : Math.min(given, strongest);
        if (t.markOf(c) != mark || !isTight(low, high, from, to)) fail(text, from + " .. " + to + " " + t.markOf(c), "mark " + mark);
        if (t.astray() != 0) fail(text + " astray()", t.astray(), 0);
    }

    private static void dueBrackets() {
        Told a = number(), b = below(8) == 0 ? a : number();
        if (a.order(b) > 0 && below(6) != 0) { Told c = a; a = b; b = c; }
        int kind = below(8);
        if (kind == 0) {
            dueRead("[" + blanks() + a.text + blanks() + "]", a, a, true);
        } else {
            boolean noLow = kind == 1, noHigh = kind == 2;
            String[] lows = {"", "-inf", "-infinity"}, highs = {"", "inf", "+inf", "infinity", "+infinity"};
            String low = noLow ? lows[below(3)] : a.text, high = noHigh ? highs[below(5)] : b.text;
            String bare = "[" + blanks() + low + blanks() + "," + blanks() + high + blanks() + "]";
            dueRead(bare, noLow ? null : a, noHigh ? null : b, !noLow && !noHigh);
        }
    }

    private static void dueUncertain() {
        int s = below(2) * 2 - 1, kind = below(4), way = below(3), power = below(2) == 0 ? 0 : tenPower();
        String row = digits(length(), 10), radius = kind == 0 ? "" : kind == 1 ? "?" : digits(length(), 10);
        int behind = below(row.length() + 1);
        String x = power == 0 && below(2) == 0 ? "" : "e" + powerText(power);
        String bare = sign(s) + pointed(row, behind) + "?" + radius + (way == 0 ? "" : way == 1 ? "u" : "d") + x;
        BigInteger twice = new BigInteger(row).multiply(BigInteger.valueOf(2 * s));
        BigInteger far = kind == 0 ? BigInteger.ONE : kind == 1 ? BigInteger.ZERO : new BigInteger(radius).multiply(TWO);
        Told low = scaled(bare, way == 1 ? twice : twice.subtract(far), 10, power - behind);
        Told high = scaled(bare, way == 2 ? twice : twice.add(far), 10, power - behind);
        low = new Told(bare, low.num, low.den.multiply(TWO));
        high = new Told(bare, high.num, high.den.multiply(TWO));
        dueRead(bare, kind == 1 && way != 1 ? null : low, kind == 1 && way != 2 ? null : high, kind != 1);
    }

    private static double someFloat() {
        switch (below(8)) {
            case 0: return 0;
            case 1: return below(2001) - 1000;
            case 2: return Math.scalb(1.0, below(2098) - 1074) * (below(2) == 0 ? 1 : -1);
            case 3: return value((below(2) == 0 ? 1 : -1) * (INF - 1 - below(3)));
            case 4: return value(below(9) - 4);
            case 5: return Double.parseDouble("1e" + (below(632) - 323)) * (below(2) == 0 ? 1 : -1);
            case 6: return value((next() & 0x000FFFFFFFFFFFFFL) * (below(2) == 0 ? 1 : -1));
            default:
                double d = Double.longBitsToDouble(next());
                return Double.isNaN(d) || Double.isInfinite(d) ? 0.1 : d;
        }
    }

    private static String decimalEnd(double d, int n, RoundingMode way) {
        if (Double.isInfinite(d)) return d > 0 ? "inf" : "-inf";
        if (d == 0) return "0";
        BigDecimal r = new BigDecimal(d).round(new MathContext(n, way));
        StringBuilder row = new StringBuilder(r.unscaledValue().abs().toString());
        int power = row.length() - 1 - r.scale();
        while (row.length() < n) row.append('0');
        row.setLength(n);
        if (n > 1) row.insert(1, '.');
        return (d < 0 ? "-" : "") + row + "e" + power;
    }

    private static String hexEnd(double d) {
        if (Double.isInfinite(d)) return d > 0 ? "inf" : "-inf";
        if (d == 0) return "0";
        long bits = Double.doubleToLongBits(Math.abs(d));
        int scale = (int) (bits >>> 52);
        return (d < 0 ? "-" : "") + (scale == 0 ? "0x0." : "0x1.") + String.format("%013x", bits & (1L << 52) - 1)
            + "p" + (Math.max(scale, 1) - 1023);
    }

    private static void dueWritten() {
        double a = someFloat(), b = below(4) == 0 ? a : someFloat(), from = Math.min(a, b), to = Math.max(a, b);
        int kind = below(12), n = below(19), mark = 1 + below(4);
        if (kind == 0) from = Double.NEGATIVE_INFINITY;
        if (kind == 1) to = Double.POSITIVE_INFINITY;
        Tape t = new Tape();
        int c = t.mark(t.cell(Double.doubleToLongBits(from), Double.doubleToLongBits(to)), mark);
        String low = n == 0 ? hexEnd(from) : decimalEnd(from, n, RoundingMode.FLOOR);
        String high = n == 0 ? hexEnd(to) : decimalEnd(to, n, RoundingMode.CEILING);
        String inside = low.equals(high) ? low : low + "," + high;
        String want = "[" + inside + "]_" + MARKS[t.markOf(c)];
        due("write " + from + " " + to + " " + n, written(t, c, n), want);
        dueReadBack(t, written(t, c, n), from, to, n);
        dueNumbers(t, c, from, to);
    }

    private static void dueReadBack(Tape t, String text, double from, double to, int n) {
        int c = read(t, text);
        double low = Double.longBitsToDouble(t.low(c)), high = Double.longBitsToDouble(t.high(c));
        boolean around = low <= from && to <= high && t.markOf(c) > 0;
        boolean same = n > 0 || low == from && high == to;
        due("read back " + text, around && same, true);
    }

    private static double up(BigDecimal d) {
        double near = d.doubleValue();
        if (Double.isInfinite(near)) return near;
        return new BigDecimal(near).compareTo(d) < 0 ? Math.nextUp(near) : near;
    }

    private static void dueNumbers(Tape t, int c, double from, double to) {
        boolean low = !Double.isInfinite(from), high = !Double.isInfinite(to), bounded = low && high;
        double inf = Double.POSITIVE_INFINITY;
        double middle = low ? high ? 0 : Double.MAX_VALUE : high ? -Double.MAX_VALUE : 0, radius = inf, width = inf;
        if (bounded) {
            BigDecimal a = new BigDecimal(from), b = new BigDecimal(to);
            middle = a.add(b).divide(BigDecimal.valueOf(2)).doubleValue();
            BigDecimal m = new BigDecimal(middle);
            radius = up(m.subtract(a).max(b.subtract(m)));
            width = up(b.subtract(a));
        }
        double most = Math.max(Math.abs(from), Math.abs(to));
        double least = from <= 0 && to >= 0 ? 0 : Math.min(Math.abs(from), Math.abs(to));
        double[] want = {middle, radius, width, most, least};
        for (int what = 0; what < 5; what++) {
            long bits = want[what] == 0 ? 0 : Double.doubleToLongBits(want[what]);
            due("number " + what + " of " + from + " .. " + to, t.number(c, what), bits);
        }
    }

    public static void main(String[] args) {
        int rounds = args.length > 0 ? Integer.parseInt(args[0]) : 1500;
        for (int i = 0; i < rounds; i++) {
            dueBrackets();
            dueUncertain();
            dueWritten();
        }
        System.out.println(wrong == 0 ? seen + " answers are as due" : wrong + " of " + seen + " answers are not as due");
        if (wrong != 0) System.exit(1);
    }
}
