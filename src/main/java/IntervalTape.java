import java.util.ArrayList;
import java.util.Arrays;

/** Intervals of real numbers with ends that are floats of 64 bits, and marks; see README.md. */
public final class IntervalTape {
    public static final int BAD = -1, FULL = -2;

    private static final int MOST_CELLS = 3000, MOST_BYTES = 400, FED = 20;
    private static final int ILL = 0, TRV = 1, DEF = 2, DAC = 3, COM = 4;
    private static final int PLAIN = 0, ONE = 1, TWO = 2, FUSED = 3, POWER = 4, LITERAL = 5;
    private static final int RECIPROCAL = 1, ROOT = 3, SIGN = 5, QUOTIENT = 3;
    private static final int BOTH = 6, EITHER = 7, CANCEL = 8, CANCEL_NEGATIVE = 9, FIRST_PART = 10;
    private static final long INFINITY = 9218868437227405312L, GREATEST = INFINITY - 1;
    private static final long NAN = 9221120237041090560L, UNIT = 4607182418800017408L;
    private static final String MARKS = "trvdefdaccom";

    private final ArrayList<Cell> cells = new ArrayList<>();
    private final byte[] tape = new byte[MOST_BYTES];
    private final Exact exact = new Exact();
    private final Ends ends = new Ends(exact);
    private final Sets sets = new Sets(ends, exact);
    private final Gauge gauge = new Gauge(ends, exact);
    private final Reader reader = new Reader(ends, exact);
    private final Writer writer = new Writer(ends.low, exact);
    private int tapeSize;
    private boolean endable;
    // Cells never change, so that each has to be looked at by astray() but once.
    private int looked, wrong;

    public IntervalTape() {
    }

    public int feed(int a, int b, int c, int d, int e) {
        if (tapeSize + FED > MOST_BYTES) return FULL;
        append(a);
        append(b);
        append(c);
        append(d);
        append(e);
        endable = true;
        return tapeSize;
    }

    public int end(int n) {
        if (n < 0 || n > FED || !endable) return BAD;
        tapeSize -= FED - n;
        endable = false;
        return tapeSize;
    }

    public int literal() {
        int size = tapeSize;
        tapeSize = 0;
        endable = false;
        if (isFull()) return FULL;
        return keep(readCell(Arrays.copyOf(tape, size)));
    }

    public int cell(long low, long high) {
        if (isFull()) return FULL;
        Cell made = new Cell();
        long from = Floats.rankOf(low), to = Floats.rankOf(high);
        boolean told = !Floats.isNan(low) && !Floats.isNan(high);
        if (told && from <= to && from < INFINITY && to > -INFINITY) {
            made.become(from, to);
            made.mark = made.strongest();
        }
        return keep(made);
    }

    public int mark(int cell, int mark) {
        if (!isThere(cell) || mark < TRV || mark > COM) return BAD;
        if (isFull()) return FULL;
        Cell source = cells.get(cell), made = new Cell();
        if (source.mark != ILL) {
            made.become(source.low, source.high);
            made.mark = Math.min(mark, made.strongest());
        }
        return keep(made);
    }

    public int one(int operation, int x) {
        if (!isThere(x) || operation < 0 || operation > 9) return BAD;
        if (isFull()) return FULL;
        Cell a = cells.get(x);
        return keep(reckon(ONE, operation, a, a, a));
    }

    public int two(int operation, int x, int y) {
        if (!isThere(x) || !isThere(y) || operation < 0 || operation > 11) return BAD;
        if (isFull()) return FULL;
        Cell a = cells.get(x), b = cells.get(y);
        if (operation < BOTH) return keep(reckon(TWO, operation, a, b, b));
        if (operation != FIRST_PART || b.hasZero()) return keep(sets.made(operation, a, b));
        Cell quotient = reckon(TWO, QUOTIENT, a, b, b);
        quotient.kind = PLAIN;
        return keep(quotient);
    }

    public int fused(int x, int y, int z) {
        if (!isThere(x) || !isThere(y) || !isThere(z)) return BAD;
        if (isFull()) return FULL;
        return keep(reckon(FUSED, 0, cells.get(x), cells.get(y), cells.get(z)));
    }

    public int power(int x, int n) {
        if (!isThere(x) || n < -40 || n > 40) return BAD;
        if (isFull()) return FULL;
        Cell a = cells.get(x);
        return keep(reckon(POWER, n, a, a, a));
    }

    public int count() {
        return cells.size();
    }

    public int clear() {
        int gone = cells.size();
        cells.clear();
        looked = 0;
        wrong = 0;
        return gone;
    }

    public long low(int cell) {
        if (!isThere(cell)) return BAD;
        Cell asked = cells.get(cell);
        return asked.mark == ILL ? NAN : Floats.bitsOf(asked.low);
    }

    public long high(int cell) {
        if (!isThere(cell)) return BAD;
        Cell asked = cells.get(cell);
        return asked.mark == ILL ? NAN : Floats.bitsOf(asked.high);
    }

    public int markOf(int cell) {
        return isThere(cell) ? cells.get(cell).mark : BAD;
    }

    public long number(int cell, int what) {
        if (!isThere(cell) || what < 0 || what > 4) return BAD;
        Cell asked = cells.get(cell);
        return asked.mark == ILL || asked.isEmpty() ? NAN : Floats.bitsOf(gauge.measure(asked, what));
    }

    public int is(int cell, int what) {
        if (!isThere(cell) || what < 0 || what > 4) return BAD;
        return cells.get(cell).isSuch(what) ? 1 : 0;
    }

    public int has(int cell, long number) {
        if (!isThere(cell)) return BAD;
        Cell asked = cells.get(cell);
        long rank = Floats.rankOf(number);
        boolean real = Math.abs(rank) < INFINITY;
        return real && asked.mark != ILL && asked.low <= rank && rank <= asked.high ? 1 : 0;
    }

    public int compare(int x, int y, int how) {
        if (!isThere(x) || !isThere(y) || how < 0 || how > 7) return BAD;
        Cell a = cells.get(x), b = cells.get(y);
        if (a.mark == ILL || b.mark == ILL) return 0;
        return gauge.stand(a, b, how) ? 1 : 0;
    }

    public int write(int cell, int digits) {
        if (!isThere(cell) || digits < 0 || digits > 18) return BAD;
        return writer.render(cells.get(cell), digits);
    }

    public long word(int i) {
        return writer.eight(i);
    }

    public int astray() {
        for (; looked < cells.size(); looked++) {
            if (isAstray(cells.get(looked))) wrong++;
        }
        return wrong;
    }

    private void append(int four) {
        for (int shift = 24; shift >= 0 && tapeSize < MOST_BYTES; shift -= 8) {
            tape[tapeSize++] = (byte) (four >>> shift);
        }
    }

    private boolean isThere(int cell) {
        return cell >= 0 && cell < cells.size();
    }

    private boolean isFull() {
        return cells.size() >= MOST_CELLS;
    }

    private int keep(Cell made) {
        cells.add(made);
        return cells.size() - 1;
    }

    private Cell readCell(byte[] text) {
        Cell made = new Cell();
        if (!reader.read(text)) return made;
        made.kind = LITERAL;
        made.text = text;
        round(made);
        made.mark = Math.min(reader.given == ILL ? COM : reader.given, made.strongest());
        return made;
    }

    // An operand that an operation has not is one of the others again: that changes neither box nor marks.
    private Cell reckon(int kind, int operation, Cell x, Cell y, Cell z) {
        Cell made = new Cell();
        int least = Math.min(x.mark, Math.min(y.mark, z.mark));
        if (least == ILL) return made;
        made.kind = kind;
        made.operation = operation;
        made.x = x;
        made.y = y;
        made.z = z;
        ends.fill(made);
        round(made);
        made.mark = Math.min(least, Marks.own(made));
        return made;
    }

    private void round(Cell made) {
        if (ends.empty) made.become(INFINITY, -INFINITY);
        else made.become(exact.down(ends.low), exact.up(ends.high));
    }

    private boolean isAstray(Cell cell) {
        if (cell.kind == PLAIN || cell.mark == ILL || cell.isEmpty()) return false;
        if (cell.kind == LITERAL) reader.read(cell.text);
        else ends.fill(cell);
        boolean lowRight = exact.orderRank(cell.low, ends.low) <= 0 && exact.orderRank(cell.low + 1, ends.low) > 0;
        boolean highRight = exact.orderRank(cell.high, ends.high) >= 0 && exact.orderRank(cell.high - 1, ends.high) < 0;
        return !lowRight || !highRight;
    }

    /** An interval with its mark, and what it came from. An ill one is what a new one is. */
    private static final class Cell {
        private long low, high;
        private int mark, kind, operation;
        private Cell x, y, z;
        private byte[] text;

        void become(long from, long to) {
            low = from;
            high = to;
        }

        boolean isEmpty() {
            return low > high;
        }

        // True of the empty one, too.
        boolean isBounded() {
            return low > -INFINITY && high < INFINITY;
        }

        boolean hasZero() {
            return low <= 0 && high >= 0;
        }

        boolean isZero() {
            return low == 0 && high == 0;
        }

        long greatestSize() {
            return Math.max(-low, high);
        }

        long leastSize() {
            return Math.max(0, Math.max(low, -high));
        }

        int strongest() {
            if (isEmpty()) return TRV;
            return isBounded() ? COM : DAC;
        }

        boolean isSuch(int what) {
            if (mark == ILL) return what == 2;
            switch (what) {
                case 0:
                    return isEmpty();
                case 1:
                    return low == -INFINITY && high == INFINITY;
                case 3:
                    return !isEmpty() && isBounded();
                case 4:
                    return low == high;
                default:
                    return false;
            }
        }
    }

    /**
     * A float is held as its rank: 0 for zero, counted up from float to float, down below zero.
     * A rank that is not below 0 is the float's bits; the next float has the next rank.
     */
    private static final class Floats {
        private static final long FRACTION = (1L << 52) - 1;

        static boolean isNan(long bits) {
            return (bits & Long.MAX_VALUE) > INFINITY;
        }

        static long rankOf(long bits) {
            long size = bits & Long.MAX_VALUE;
            return bits < 0 ? -size : size;
        }

        static long bitsOf(long rank) {
            return rank < 0 ? -rank | Long.MIN_VALUE : rank;
        }

        static int scale(long size) {
            return (int) (size >>> 52);
        }

        static long significand(long size) {
            return size <= FRACTION ? size : (size & FRACTION) | (FRACTION + 1);
        }

        static int exponent(long size) {
            return size <= FRACTION ? -1074 : (int) (size >>> 52) - 1075;
        }

        static long cut(long size) {
            int scale = (int) (size >>> 52);
            if (scale < 1023) return 0;
            return scale > 1074 ? size : size & -(1L << (1075 - scale));
        }

        static long nextWhole(long size) {
            long whole = cut(size);
            return whole == 0 ? UNIT : whole + (1L << Math.max(1075 - scale(size), 0));
        }

        static long raised(long size) {
            return cut(size) == size ? size : nextWhole(size);
        }

        // Below 1 / 2 and from 2 ^ 52 on there is no half behind the point.
        static boolean mayHaveHalf(long size) {
            return scale(size) >= 1022 && scale(size) <= 1074;
        }

        static boolean isHalfway(long size) {
            if (!mayHaveHalf(size)) return false;
            long half = 1L << (1074 - scale(size));
            return (significand(size) & (2 * half - 1)) == half;
        }

        static long evened(long size) {
            if (!mayHaveHalf(size)) return cut(size);
            long half = 1L << (1074 - scale(size));
            long behind = significand(size) & (2 * half - 1);
            boolean odd = (significand(size) & (2 * half)) != 0;
            return behind > half || behind == half && odd ? nextWhole(size) : cut(size);
        }

        static long step(int operation, long rank) {
            long size = Math.abs(rank), stepped;
            switch (operation) {
                case SIGN:
                    stepped = size == 0 ? 0 : UNIT;
                    break;
                case 6:
                    stepped = rank > 0 ? raised(size) : cut(size);
                    break;
                case 7:
                    stepped = rank > 0 ? cut(size) : raised(size);
                    break;
                case 8:
                    stepped = cut(size);
                    break;
                default:
                    stepped = evened(size);
                    break;
            }
            return rank < 0 ? -stepped : stepped;
        }

        static boolean jumps(int operation, long rank) {
            long size = Math.abs(rank);
            if (operation == SIGN) return rank == 0;
            if (operation == 9) return isHalfway(size);
            return cut(size) == size && (operation != 8 || rank != 0);
        }
    }

    /** A natural number, its words of 32 bits from the lowest one on; ROOM is above what any run needs. */
    private static final class Big {
        private static final int ROOM = 200;
        private static final long LOW_HALF = 0xFFFFFFFFL;
        private final int[] words = new int[ROOM];
        private int size;

        void become(long value) {
            words[0] = (int) value;
            words[1] = (int) (value >>> 32);
            size = words[1] != 0 ? 2 : words[0] != 0 ? 1 : 0;
        }

        void copy(Big other) {
            for (int i = 0; i < other.size; i++) words[i] = other.words[i];
            size = other.size;
        }

        boolean isUnit() {
            return size == 1 && words[0] == 1;
        }

        int bits() {
            return size == 0 ? 0 : 32 * size - Integer.numberOfLeadingZeros(words[size - 1]);
        }

        long digit(int i) {
            return i >= 0 && i < size ? words[i] & LOW_HALF : 0;
        }

        static int order(Big a, Big b) {
            for (int i = Math.max(a.size, b.size) - 1; i >= 0; i--) {
                int order = Long.compare(a.digit(i), b.digit(i));
                if (order != 0) return order;
            }
            return 0;
        }

        void becomeSum(Big a, Big b) {
            int most = Math.max(a.size, b.size);
            long carry = 0;
            for (int i = 0; i < most; i++) {
                carry += a.digit(i) + b.digit(i);
                words[i] = (int) carry;
                carry >>>= 32;
            }
            size = most;
            push(carry);
        }

        void becomeDifference(Big greater, Big lesser) {
            int most = greater.size;
            long carry = 0;
            for (int i = 0; i < most; i++) {
                carry += greater.digit(i) - lesser.digit(i);
                words[i] = (int) carry;
                carry >>= 32;
            }
            size = most;
            trim();
        }

        void becomeProduct(Big a, Big b) {
            int length = Math.min(a.size + b.size, ROOM);
            for (int i = 0; i < length; i++) words[i] = 0;
            for (int i = 0; i < a.size; i++) {
                long carry = 0, factor = a.words[i] & LOW_HALF;
                int most = Math.min(b.size, ROOM - i);
                for (int j = 0; j < most; j++) {
                    carry += factor * (b.words[j] & LOW_HALF) + (words[i + j] & LOW_HALF);
                    words[i + j] = (int) carry;
                    carry >>>= 32;
                }
                if (i + most < ROOM) words[i + most] = (int) carry;
            }
            size = length;
            trim();
        }

        void timesPlus(int factor, int addend) {
            long carry = addend;
            for (int i = 0; i < size; i++) {
                carry += factor * (words[i] & LOW_HALF);
                words[i] = (int) carry;
                carry >>>= 32;
            }
            push(carry);
        }

        void shiftLeft(int shift) {
            int whole = shift >> 5, rest = shift & 31;
            if (shift <= 0 || size == 0 || size + whole >= ROOM) return;
            for (int i = size; i >= 0; i--) {
                words[i + whole] = (int) ((digit(i) << rest) | ((digit(i - 1) << rest) >>> 32));
            }
            for (int i = 0; i < whole; i++) words[i] = 0;
            size += whole + 1;
            trim();
        }

        void halve() {
            for (int i = 0; i < size; i++) {
                words[i] = (int) ((digit(i) >>> 1) | (digit(i + 1) << 31));
            }
            trim();
        }

        long from(int position) {
            int whole = position >> 5, rest = position & 31;
            long lower = digit(whole) | (digit(whole + 1) << 32);
            return rest == 0 ? lower : (lower >>> rest) | (digit(whole + 2) << (64 - rest));
        }

        boolean anyBelow(int position) {
            int whole = Math.min(position >> 5, size);
            for (int i = 0; i < whole; i++) {
                if (words[i] != 0) return true;
            }
            return (digit(whole) & ((1L << (position & 31)) - 1)) != 0;
        }

        private void push(long carry) {
            if (carry != 0 && size < ROOM) words[size++] = (int) carry;
        }

        private void trim() {
            while (size > 0 && words[size - 1] == 0) size--;
        }
    }

    /** An exact number sign * top / bottom * 2 ^ exponent, or the root of that, or an infinity of that sign. */
    private static final class Real {
        private static final int FIVES = 13, FIVES_POWER = 1220703125;
        private int sign, exponent;
        private boolean infinite, root;
        private final Big top = new Big(), bottom = new Big();

        void becomeWhole(int side, int binary) {
            sign = side;
            exponent = binary;
            infinite = false;
            root = false;
            bottom.become(1);
        }

        void becomeRank(long rank) {
            long size = Math.abs(rank);
            sign = Long.signum(rank);
            exponent = Floats.exponent(size);
            infinite = size == INFINITY;
            root = false;
            top.become(Floats.significand(size));
            bottom.become(1);
        }

        void becomeInfinite(int side) {
            becomeRank(side < 0 ? -INFINITY : INFINITY);
        }

        void become(Real other) {
            sign = other.sign;
            exponent = other.exponent;
            infinite = other.infinite;
            root = other.root;
            top.copy(other.top);
            bottom.copy(other.bottom);
        }

        // Zero times an end that is infinite is 0: no number of the interval is infinite.
        void becomeProduct(Real a, Real b) {
            becomeWhole(a.sign * b.sign, a.exponent + b.exponent);
            infinite = sign != 0 && (a.infinite || b.infinite);
            top.becomeProduct(a.top, b.top);
        }

        // What the quotient comes near to, if b is an end that is infinite, or 0 with the numbers above it.
        void becomeQuotient(Real a, Real b) {
            boolean beyond = a.infinite || b.sign == 0;
            becomeWhole(b.infinite ? 0 : b.sign < 0 ? -a.sign : a.sign, a.exponent - b.exponent);
            infinite = sign != 0 && beyond;
            if (sign == 0) top.become(0);
            else top.copy(a.top);
            if (sign != 0 && !beyond) bottom.copy(b.top);
        }

        void becomeSum(Real a, Real b) {
            if (a.infinite || b.sign == 0) {
                become(a);
                return;
            }
            if (b.infinite || a.sign == 0) {
                become(b);
                return;
            }
            int least = Math.min(a.exponent, b.exponent);
            top.copy(a.top);
            top.shiftLeft(a.exponent - least);
            bottom.copy(b.top);
            bottom.shiftLeft(b.exponent - least);
            int order = Big.order(top, bottom), side = order < 0 ? b.sign : a.sign;
            if (a.sign == b.sign) top.becomeSum(top, bottom);
            else if (order < 0) top.becomeDifference(bottom, top);
            else top.becomeDifference(top, bottom);
            becomeWhole(top.size == 0 ? 0 : side, least);
        }

        // The base must not be 0 for n below 0.
        void becomePower(Real base, int n) {
            if (n > 0 && base.sign == 0 || n < 0 && base.infinite) {
                becomeRank(0);
                return;
            }
            int times = Math.abs(n);
            top.become(1);
            for (int i = 0; i < times; i++) {
                bottom.becomeProduct(top, base.top);
                top.copy(bottom);
            }
            becomeWhole((n & 1) == 0 ? 1 : base.sign, base.exponent * n);
            infinite = n > 0 && base.infinite;
            if (n < 0) {
                bottom.copy(top);
                top.become(1);
            }
        }

        void timesTen(int n) {
            if (infinite || sign == 0) return;
            Big part = n < 0 ? bottom : top;
            int left = Math.abs(n);
            for (; left >= FIVES; left -= FIVES) part.timesPlus(FIVES_POWER, 0);
            for (; left > 0; left--) part.timesPlus(5, 0);
            exponent += n;
        }

        // The size is above 2 ^ (level - 1) and below 2 ^ (level + 1).
        int level() {
            return top.bits() - bottom.bits() + exponent;
        }
    }

    /** Order and rounding of exact numbers. */
    private static final class Exact {
        private final Big left = new Big(), right = new Big();
        private final Real probe = new Real();
        private boolean inexact;

        int order(Real a, Real b) {
            if (a.sign != b.sign || a.sign == 0) return Integer.compare(a.sign, b.sign);
            if (a.infinite || b.infinite) return a.infinite == b.infinite ? 0 : a.infinite ? a.sign : -a.sign;
            int shift = a.exponent - b.exponent;
            int gap = a.top.bits() - a.bottom.bits() - b.top.bits() + b.bottom.bits() + shift;
            // Only numbers of nearly the same size are multiplied out: all others would need more room.
            if (gap > 1 || gap < -1) return gap > 0 ? a.sign : -a.sign;
            left.becomeProduct(a.top, b.bottom);
            right.becomeProduct(b.top, a.bottom);
            left.shiftLeft(shift);
            right.shiftLeft(-shift);
            return a.sign * Big.order(left, right);
        }

        int orderRank(long rank, Real value) {
            probe.becomeRank(rank);
            if (!value.root || value.infinite || rank <= 0 || rank == INFINITY) return order(probe, value);
            left.becomeProduct(probe.top, probe.top);
            probe.top.copy(left);
            probe.exponent *= 2;
            return order(probe, value);
        }

        long down(Real value) {
            long size = size(value);
            if (value.sign < 0) return inexact ? -size - 1 : -size;
            return size;
        }

        long up(Real value) {
            long size = size(value);
            if (value.sign < 0) return -size;
            return inexact ? size + 1 : size;
        }

        long nearest(Real value) {
            long size = size(value);
            if (!inexact) return value.sign < 0 ? -size : size;
            probe.becomeWhole(value.sign, Floats.exponent(size) - 1);
            probe.top.become(2 * Floats.significand(size) + 1);
            int beyond = value.sign * order(value, probe);
            if (beyond > 0 || beyond == 0 && (size & 1) != 0) size++;
            return value.sign < 0 ? -size : size;
        }

        // The rank of the greatest float not above the value's size, and in inexact whether it is below.
        long size(Real value) {
            inexact = false;
            if (value.infinite) return INFINITY;
            if (value.sign == 0) return 0;
            if (value.root) return rootSize(value);
            int level = value.level(), unit = Math.max(level - 54, -1074);
            inexact = true;
            if (level > 1024) return GREATEST;
            if (level < -1074) return 0;
            long whole = whole(value, unit);
            for (int i = 0; i < 3 && whole >= 1L << 53; i++) {
                inexact |= (whole & 1) != 0;
                whole >>= 1;
                unit++;
            }
            long rank = ((unit + 1074L) << 52) + whole;
            inexact |= rank > GREATEST;
            return Math.min(rank, GREATEST);
        }

        // How often 2 ^ unit goes into the value's size (below 2 ^ 63 times), and in inexact whether a rest is left.
        long whole(Real value, int unit) {
            int shift = value.exponent - unit;
            if (value.bottom.isUnit()) {
                inexact = shift < 0 && value.top.anyBelow(-shift);
                return shift < 0 ? value.top.from(-shift) : value.top.from(0) << Math.min(shift, 63);
            }
            left.copy(value.top);
            left.shiftLeft(shift);
            right.copy(value.bottom);
            right.shiftLeft(-shift);
            int steps = Math.min(left.bits() - right.bits(), 63);
            right.shiftLeft(steps);
            long quotient = 0;
            for (int i = 0; i <= steps; i++) {
                quotient <<= 1;
                if (Big.order(left, right) >= 0) {
                    left.becomeDifference(left, right);
                    quotient |= 1;
                }
                right.halve();
            }
            inexact = left.size > 0;
            return quotient;
        }

        // Bit by bit, from a float that is widened to 105 or 106 bits and an even exponent.
        private long rootSize(Real value) {
            long significand = value.top.from(0), root = 0, rest = 0;
            int shift = 105 - value.top.bits();
            if (((value.exponent - shift) & 1) != 0) shift++;
            for (int place = 104; place >= 0; place -= 2) {
                rest = (rest << 2) | (bitAt(significand, place + 1 - shift) << 1) | bitAt(significand, place - shift);
                long trial = (root << 2) | 1;
                root <<= 1;
                if (rest >= trial) {
                    rest -= trial;
                    root |= 1;
                }
            }
            inexact = rest != 0;
            return (((value.exponent - shift) / 2 + 1074L) << 52) + root;
        }

        private static long bitAt(long significand, int place) {
            return place < 0 || place > 63 ? 0 : (significand >>> place) & 1;
        }
    }

    /** The exact ends of all values of an operation; literals leave theirs here too. */
    private static final class Ends {
        private boolean empty;
        private final Real low = new Real(), high = new Real();
        private final Real left = new Real(), right = new Real(), corner = new Real();
        private final Exact exact;

        Ends(Exact exact) {
            this.exact = exact;
        }

        void fill(Cell cell) {
            Cell x = cell.x, y = cell.y, z = cell.z;
            if (x == null || y == null || z == null) return;
            empty = x.isEmpty() || y.isEmpty() || z.isEmpty();
            if (empty) return;
            if (cell.kind == POWER) {
                raise(x, cell.operation);
            } else if (cell.kind == TWO) {
                fillTwo(cell.operation, x, y);
            } else if (cell.kind == ONE) {
                fillOne(cell.operation, x);
            } else {
                multiply(x, y);
                addTo(low, z.low);
                addTo(high, z.high);
            }
        }

        void becomeRanks(long from, long to) {
            low.becomeRank(from);
            high.becomeRank(to);
        }

        void sum(Real into, long a, long b) {
            left.becomeRank(a);
            right.becomeRank(b);
            into.becomeSum(left, right);
        }

        void quotient(Real into, long a, long b) {
            left.becomeRank(a);
            right.becomeRank(b);
            into.becomeQuotient(left, right);
        }

        private void addTo(Real into, long b) {
            left.become(into);
            right.becomeRank(b);
            into.becomeSum(left, right);
        }

        private void fillOne(int operation, Cell x) {
            switch (operation) {
                case 0:
                    becomeRanks(-x.high, -x.low);
                    break;
                case RECIPROCAL:
                    raise(x, -1);
                    break;
                case 2:
                    raise(x, 2);
                    break;
                case ROOT:
                    empty = x.high < 0;
                    becomeRanks(Math.max(x.low, 0), x.high);
                    low.root = true;
                    high.root = true;
                    break;
                case 4:
                    becomeRanks(x.leastSize(), x.greatestSize());
                    break;
                default:
                    becomeRanks(Floats.step(operation, x.low), Floats.step(operation, x.high));
                    break;
            }
        }

        private void fillTwo(int operation, Cell x, Cell y) {
            switch (operation) {
                case 0:
                    sum(low, x.low, y.low);
                    sum(high, x.high, y.high);
                    break;
                case 1:
                    sum(low, x.low, -y.high);
                    sum(high, x.high, -y.low);
                    break;
                case 2:
                    multiply(x, y);
                    break;
                case QUOTIENT:
                    divide(x, y);
                    break;
                case 4:
                    becomeRanks(Math.min(x.low, y.low), Math.min(x.high, y.high));
                    break;
                default:
                    becomeRanks(Math.max(x.low, y.low), Math.max(x.high, y.high));
                    break;
            }
        }

        private void multiply(Cell x, Cell y) {
            for (int i = 0; i < 4; i++) {
                left.becomeRank(i < 2 ? x.low : x.high);
                right.becomeRank((i & 1) == 0 ? y.low : y.high);
                corner.becomeProduct(left, right);
                if (i == 0 || exact.order(corner, low) < 0) low.become(corner);
                if (i == 0 || exact.order(corner, high) > 0) high.become(corner);
            }
        }

        private void divide(Cell x, Cell y) {
            empty = y.isZero();
            if (x.isZero()) {
                becomeRanks(0, 0);
                return;
            }
            if (y.low < 0 && y.high > 0) {
                becomeRanks(-INFINITY, INFINITY);
                return;
            }
            boolean turned = y.high <= 0;
            long from = turned ? -x.high : x.low, to = turned ? -x.low : x.high;
            long near = turned ? -y.high : y.low, far = turned ? -y.low : y.high;
            left.becomeRank(from);
            right.becomeRank(from < 0 ? near : far);
            low.becomeQuotient(left, right);
            left.becomeRank(to);
            right.becomeRank(to < 0 ? far : near);
            high.becomeQuotient(left, right);
        }

        private void raise(Cell x, int n) {
            boolean even = (n & 1) == 0;
            long from = even ? x.leastSize() : x.low, to = even ? x.greatestSize() : x.high;
            if (n < 0 && from < 0 && to > 0) {
                becomeRanks(-INFINITY, INFINITY);
                return;
            }
            empty = n < 0 && x.isZero();
            left.becomeRank(from);
            right.becomeRank(to);
            if (n < 0 && to == 0) low.becomeInfinite(-1);
            else low.becomePower(n < 0 ? right : left, n);
            if (n < 0 && from == 0) high.becomeInfinite(1);
            else high.becomePower(n < 0 ? left : right, n);
        }
    }

    /** The mark that an arithmetic operation has of its own. */
    private static final class Marks {
        static int own(Cell cell) {
            Cell x = cell.x, y = cell.y, z = cell.z;
            if (x == null || y == null || z == null) return TRV;
            if (x.isEmpty() || y.isEmpty() || z.isEmpty() || !isDefined(cell, x, y)) return TRV;
            if (cell.kind == ONE && cell.operation >= SIGN) {
                // A step that has one value in the box can jump only at the box's ends.
                if (cell.low != cell.high) return DEF;
                if (Floats.jumps(cell.operation, x.low) || Floats.jumps(cell.operation, x.high)) return DAC;
            }
            return x.isBounded() && y.isBounded() && z.isBounded() && cell.isBounded() ? COM : DAC;
        }

        private static boolean isDefined(Cell cell, Cell x, Cell y) {
            if (cell.kind == ONE && cell.operation == ROOT) return x.low >= 0;
            if (cell.kind == ONE && cell.operation == RECIPROCAL) return !x.hasZero();
            if (cell.kind == POWER && cell.operation < 0) return !x.hasZero();
            return cell.kind != TWO || cell.operation != QUOTIENT || !y.hasZero();
        }
    }

    /** The operations of two operands that are no arithmetic. */
    private static final class Sets {
        private final Ends ends;
        private final Exact exact;

        Sets(Ends ends, Exact exact) {
            this.ends = ends;
            this.exact = exact;
        }

        Cell made(int operation, Cell x, Cell y) {
            Cell made = new Cell();
            if (x.mark == ILL || y.mark == ILL) return made;
            made.mark = TRV;
            made.become(INFINITY, -INFINITY);
            if (operation == BOTH) meet(made, x, y);
            else if (operation == EITHER) made.become(Math.min(x.low, y.low), Math.max(x.high, y.high));
            else if (operation == CANCEL) cancel(made, x, y, y.low, y.high);
            else if (operation == CANCEL_NEGATIVE) cancel(made, x, y, -y.high, -y.low);
            else if (!x.isEmpty() && y.hasZero()) part(made, x, y, operation == FIRST_PART);
            return made;
        }

        private void meet(Cell made, Cell x, Cell y) {
            long from = Math.max(x.low, y.low), to = Math.min(x.high, y.high);
            if (from <= to) made.become(from, to);
        }

        private void cancel(Cell made, Cell x, Cell y, long from, long to) {
            if (x.isEmpty() && (y.isEmpty() || y.isBounded())) return;
            made.become(-INFINITY, INFINITY);
            if (x.isEmpty() || y.isEmpty() || !x.isBounded() || !y.isBounded()) return;
            ends.sum(ends.low, x.high, -x.low);
            ends.sum(ends.high, to, -from);
            if (exact.order(ends.low, ends.high) < 0) return;
            ends.sum(ends.low, x.low, -from);
            ends.sum(ends.high, x.high, -to);
            made.become(exact.down(ends.low), exact.up(ends.high));
        }

        // Zero is in y: each part goes on to infinity, and its other end comes from x's end that is nearest to 0.
        private void part(Cell made, Cell x, Cell y, boolean first) {
            if (x.hasZero()) {
                if (first) made.become(-INFINITY, INFINITY);
                return;
            }
            boolean above = x.low > 0;
            long near = above ? x.low : x.high;
            long forBelow = above ? y.low : y.high, forAbove = above ? y.high : y.low;
            boolean split = y.low < 0 && y.high > 0;
            if (!first && !split) return;
            if (forBelow != 0 && first) {
                ends.quotient(ends.high, near, forBelow);
                made.become(-INFINITY, exact.up(ends.high));
            } else if (forAbove != 0) {
                ends.quotient(ends.low, near, forAbove);
                made.become(exact.down(ends.low), INFINITY);
            }
        }
    }

    /** Floats of an interval, and how two of them stand to one another. */
    private static final class Gauge {
        private final Ends ends;
        private final Exact exact;

        Gauge(Ends ends, Exact exact) {
            this.ends = ends;
            this.exact = exact;
        }

        long measure(Cell cell, int what) {
            if (what == 0) return middle(cell);
            if (what == 4) return cell.leastSize();
            if (!cell.isBounded()) return INFINITY;
            if (what == 3) return cell.greatestSize();
            if (what == 2) return distance(cell.low, cell.high);
            long middle = middle(cell);
            return Math.max(distance(cell.low, middle), distance(middle, cell.high));
        }

        private long middle(Cell cell) {
            if (cell.low == -INFINITY) return cell.high == INFINITY ? 0 : -GREATEST;
            if (cell.high == INFINITY) return GREATEST;
            ends.sum(ends.low, cell.low, cell.high);
            ends.low.exponent--;
            return exact.nearest(ends.low);
        }

        private long distance(long from, long to) {
            ends.sum(ends.low, to, -from);
            return exact.up(ends.low);
        }

        boolean stand(Cell x, Cell y, int how) {
            if (how == 0) return x.low == y.low && x.high == y.high;
            if (x.isEmpty() || y.isEmpty()) return standEmpty(x, y, how);
            switch (how) {
                case 1:
                    return y.low <= x.low && x.high <= y.high;
                case 2:
                    return x.low <= y.low && x.high <= y.high;
                case 3:
                    return x.high <= y.low;
                case 4:
                    return isBeyond(y.low, x.low) && isBeyond(-y.high, -x.high);
                case 5:
                    return isBeyond(x.low, y.low) && isBeyond(-y.high, -x.high);
                case 6:
                    return x.high < y.low;
                default:
                    return x.high < y.low || y.high < x.low;
            }
        }

        private static boolean standEmpty(Cell x, Cell y, int how) {
            if (how == 1 || how == 4) return x.isEmpty();
            return how != 2 && how != 5 || x.isEmpty() && y.isEmpty();
        }

        private static boolean isBeyond(long outer, long inner) {
            return outer == -INFINITY || outer < inner;
        }
    }

    /** Reads a text of an interval; the ends come as the numbers that are told, before they are rounded. */
    private static final class Reader {
        private final Ends ends;
        private final Exact exact;
        private byte[] text;
        private int at, given, behind;
        private boolean fine, open;

        Reader(Ends ends, Exact exact) {
            this.ends = ends;
            this.exact = exact;
        }

        // Whether the text is not ill; [nai] is no text that this knows, which makes it ill as well.
        boolean read(byte[] bytes) {
            text = bytes;
            at = 0;
            given = ILL;
            fine = bytes != null;
            open = false;
            ends.empty = false;
            lower();
            skipBlanks();
            if (take('[')) readBrackets();
            else readUncertain();
            if (take('_')) readMark();
            skipBlanks();
            if (!fine || at < bytes.length) return false;
            if (ends.empty) return given <= TRV;
            if (open && given == COM) return false;
            return exact.order(ends.low, ends.high) <= 0;
        }

        // The text is the cell's own copy, which no one asks for as it came.
        private void lower() {
            int length = text == null ? 0 : text.length;
            for (int i = 0; i < length; i++) {
                if (text[i] >= 'A' && text[i] <= 'Z') text[i] += 32;
            }
        }

        private int peek() {
            return text == null || at >= text.length ? -1 : text[at] & 255;
        }

        private boolean take(int c) {
            if (text == null || at >= text.length || text[at] != c) return false;
            at++;
            return true;
        }

        private boolean takeWord(String letters, int from, int to) {
            int start = at;
            for (int i = from; i < to; i++) {
                if (!take(letters.charAt(i))) {
                    at = start;
                    return false;
                }
            }
            return true;
        }

        private void skipBlanks() {
            int length = text == null ? 0 : text.length;
            while (at < length && (text[at] == 32 || text[at] == 9)) at++;
        }

        private void readMark() {
            for (int mark = TRV; mark <= COM && given == ILL; mark++) {
                if (takeWord(MARKS, 3 * mark - 3, 3 * mark)) given = mark;
            }
            fine &= given != ILL;
        }

        private void readBrackets() {
            skipBlanks();
            if (takeWord("entire", 0, 6)) {
                open = true;
                ends.becomeRanks(-INFINITY, INFINITY);
            } else if (peek() == ']' || takeWord("empty", 0, 5)) {
                ends.empty = true;
            } else {
                boolean infinite = peek() == ',' || takeInfinity("-inf", 4);
                if (infinite) ends.low.becomeInfinite(-1);
                else readNumber(ends.low);
                open = infinite;
                skipBlanks();
                boolean pair = take(',');
                skipBlanks();
                infinite = pair && (peek() == ']' || takeInfinity("inf", 3) || takeInfinity("+inf", 4));
                if (infinite) ends.high.becomeInfinite(1);
                else if (pair) readNumber(ends.high);
                else ends.high.become(ends.low);
                fine &= pair || !open;
                open |= infinite;
            }
            skipBlanks();
            fine &= take(']');
        }

        private boolean takeInfinity(String letters, int length) {
            if (!takeWord(letters, 0, length)) return false;
            takeWord("inity", 0, 5);
            return true;
        }

        private int takeSign() {
            if (take('-')) return -1;
            take('+');
            return 1;
        }

        private void readNumber(Real into) {
            int side = takeSign();
            boolean hex = takeWord("0x", 0, 2);
            fine &= takeDigits(into.top, hex ? 16 : 10, true);
            int places = Math.max(behind, 0);
            into.becomeWhole(into.top.size == 0 ? 0 : side, 0);
            if (hex) {
                fine &= take('p');
                into.exponent = takeExponent(4) - 4 * places;
            } else if (behind < 0 && take('/')) {
                fine &= takeDigits(into.bottom, 10, false) && into.bottom.size > 0;
            } else {
                into.timesTen((take('e') ? takeExponent(3) : 0) - places);
            }
        }

        // A row of digits, if there is one, and in behind how many stand behind the point, -1 without a point.
        private boolean takeDigits(Big into, int base, boolean mayPoint) {
            int start = at, points = 0, length = text == null ? 0 : text.length;
            behind = -1;
            into.become(0);
            while (at < length) {
                int c = peek(), digit = digitOf(c);
                if (digit >= 0 && digit < base) {
                    into.timesPlus(base, digit);
                    if (points > 0) behind++;
                } else if (c == '.' && mayPoint && points == 0) {
                    points = 1;
                    behind = 0;
                } else {
                    break;
                }
                at++;
            }
            return at - start > points;
        }

        private static int digitOf(int c) {
            if (c >= '0' && c <= '9') return c - '0';
            return c >= 'a' && c <= 'f' ? c - 'a' + 10 : -1;
        }

        // A digit beyond the most stays and makes the text ill, for none may follow.
        private int takeExponent(int most) {
            int side = takeSign(), value = 0, start = at;
            for (int i = 0; i < most && peek() >= '0' && peek() <= '9'; i++) {
                value = 10 * value + peek() - '0';
                at++;
            }
            fine &= at > start;
            return side * value;
        }

        private void readUncertain() {
            Real middle = ends.left, radius = ends.right;
            int side = takeSign();
            fine &= takeDigits(middle.top, 10, true) && take('?');
            middle.becomeWhole(middle.top.size == 0 ? 0 : side, 0);
            int places = Math.max(behind, 0);
            readRadius(radius);
            boolean upward = take('u'), downward = !upward && take('d');
            int tens = (take('e') ? takeExponent(3) : 0) - places;
            ends.high.become(middle);
            if (!downward) ends.high.becomeSum(middle, radius);
            radius.sign = -radius.sign;
            ends.low.become(middle);
            if (!upward) ends.low.becomeSum(middle, radius);
            ends.low.timesTen(tens);
            ends.high.timesTen(tens);
        }

        private void readRadius(Real radius) {
            open = take('?');
            if (open) {
                radius.becomeInfinite(1);
                return;
            }
            boolean told = takeDigits(radius.top, 10, false);
            if (!told) radius.top.become(1);
            radius.becomeWhole(radius.top.size == 0 ? 0 : 1, told ? 0 : -1);
        }
    }

    /** Writes a cell into the out. */
    private static final class Writer {
        private static final long[] TENS = {
            1L, 10L, 100L, 1000L, 10000L, 100000L, 1000000L, 10000000L, 100000000L, 1000000000L, 10000000000L,
            100000000000L, 1000000000000L, 10000000000000L, 100000000000000L, 1000000000000000L,
            10000000000000000L, 100000000000000000L, 1000000000000000000L};
        private final byte[] out = new byte[64];
        private final Real value;
        private final Exact exact;
        private int size;

        Writer(Real value, Exact exact) {
            this.value = value;
            this.exact = exact;
        }

        int render(Cell cell, int digits) {
            size = 0;
            if (cell.mark == ILL) {
                putText("[nai]", 0, 5);
                return size;
            }
            if (cell.isEmpty()) {
                putText("[empty]", 0, 7);
            } else if (cell.isSuch(1)) {
                putText("[entire]", 0, 8);
            } else {
                put('[');
                putEnd(cell.low, digits, cell.low < 0);
                int between = size;
                put(',');
                putEnd(cell.high, digits, cell.high > 0);
                if (isTwice(between)) size = between;
                put(']');
            }
            put('_');
            putText(MARKS, 3 * cell.mark - 3, 3 * cell.mark);
            return size;
        }

        long eight(int i) {
            long bytes = 0;
            if (i < 0 || i >= out.length / 8) return 0;
            for (int k = 7; k >= 0; k--) {
                bytes <<= 8;
                if (8 * i + k < size) bytes |= out[8 * i + k] & 255;
            }
            return bytes;
        }

        private void put(int c) {
            if (size < out.length) out[size++] = (byte) c;
        }

        private void putText(String letters, int from, int to) {
            for (int i = from; i < to; i++) put(letters.charAt(i));
        }

        // Whether what stands behind the bracket stands behind the comma again.
        private boolean isTwice(int comma) {
            if (size - comma != comma) return false;
            for (int i = 1; i < comma; i++) {
                if (out[i] != out[comma + i]) return false;
            }
            return true;
        }

        private void putEnd(long rank, int digits, boolean away) {
            if (rank < 0) put('-');
            long end = Math.abs(rank);
            if (end == INFINITY) putText("inf", 0, 3);
            else if (end == 0) put('0');
            else if (digits == 0) putHex(end);
            else putDecimal(end, digits, away);
        }

        private void putHex(long end) {
            int scale = Floats.scale(end);
            putText("0x", 0, 2);
            put(scale == 0 ? '0' : '1');
            put('.');
            for (int shift = 48; shift >= 0; shift -= 4) {
                put("0123456789abcdef".charAt((int) (end >>> shift) & 15));
            }
            put('p');
            putWhole(Math.max(scale, 1) - 1023);
        }

        private void putDecimal(long end, int digits, boolean away) {
            value.becomeRank(end);
            // At most one above the right exponent: 30103 / 100000 is a little above the logarithm of 2.
            int tens = Math.floorDiv((value.level() + 1) * 30103, 100000);
            long whole = scaled(end, digits - 1 - tens);
            if (whole < TENS[digits - 1]) {
                tens--;
                whole = scaled(end, digits - 1 - tens);
            }
            if (away && exact.inexact) whole++;
            if (whole >= TENS[digits]) {
                whole = TENS[digits - 1];
                tens++;
            }
            for (int i = digits - 1; i >= 0; i--) {
                put('0' + (int) (whole / TENS[i] % 10));
                if (i == digits - 1 && i > 0) put('.');
            }
            put('e');
            putWhole(tens);
        }

        private long scaled(long end, int tens) {
            value.becomeRank(end);
            value.timesTen(tens);
            return exact.whole(value, 0);
        }

        private void putWhole(int number) {
            if (number < 0) put('-');
            int left = Math.abs(number), place = 1000;
            for (int i = 0; i < 3 && place > left; i++) place /= 10;
            for (int i = 0; i < 4 && place > 0; i++) {
                put('0' + left / place % 10);
                place /= 10;
            }
        }
    }
}
