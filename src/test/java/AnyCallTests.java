/** No call may throw or fail to end, for any arguments in any state; and the same calls give the same answers. */
public final class AnyCallTests {
    private static final int[] NUMBERS = {0, 1, 2, 3, 4, 5, 7, 9, 10, 11, 18, 19, 20, 21, 40, 41, -1, -2, -40, -41, 2999, 3000,
        Integer.MAX_VALUE, Integer.MIN_VALUE};
    private static final long[] FLOATS = {0, Long.MIN_VALUE, 1, Long.MIN_VALUE + 1, 0x3FF0000000000000L, 0xBFF0000000000000L,
        0x7FF0000000000000L, 0xFFF0000000000000L, 0x7FEFFFFFFFFFFFFFL, 0xFFEFFFFFFFFFFFFFL, 9221120237041090560L, -1L,
        0x4008000000000000L, 0x3FB999999999999AL, 0x0010000000000000L, 0x000FFFFFFFFFFFFFL};
    private static final String LETTERS = "[[]],,..00112359eexxpp//??uudd__--++ \tinfemptyentirenaicomdacdeftrvabcdf";
    private static long seed = 5;

    private static int below(int n) {
        seed = seed * 6364136223846793005L + 1442695040888963407L;
        return (int) Math.floorMod((seed >>> 17) ^ (seed >>> 41), (long) n);
    }

    private static int any(Tape t) {
        return below(4) > 0 && t.count() > 0 ? below(t.count()) : NUMBERS[below(NUMBERS.length)];
    }

    private static int small(int n) {
        return below(8) > 0 ? below(n) : NUMBERS[below(NUMBERS.length)];
    }

    private static long anyFloat() {
        return below(3) > 0 ? FLOATS[below(FLOATS.length)] : ((long) below(1 << 30) << 34) ^ below(1 << 30);
    }

    private static int four() {
        int bytes = 0;
        for (int i = 0; i < 4; i++) bytes = bytes << 8 | (below(40) == 0 ? below(256) : LETTERS.charAt(below(LETTERS.length())));
        return bytes;
    }

    private static long call(Tape t) {
        switch (below(24)) {
            case 0: case 1: return t.feed(four(), four(), four(), four(), four());
            case 2: return t.end(small(21));
            case 3: return t.literal();
            case 4: case 5: return t.cell(anyFloat(), anyFloat());
            case 6: return t.mark(any(t), small(5));
            case 7: case 8: return t.one(small(10), any(t));
            case 9: case 10: case 11: return t.two(small(12), any(t), any(t));
            case 12: return t.fused(any(t), any(t), any(t));
            case 13: return t.power(any(t), small(81) - 40);
            case 14: return t.count();
            case 15: return below(20) == 0 ? t.clear() : t.markOf(any(t));
            case 16: return t.low(any(t)) ^ t.high(any(t));
            case 17: return t.number(any(t), small(5));
            case 18: return t.is(any(t), small(5));
            case 19: return t.has(any(t), anyFloat());
            case 20: return t.compare(any(t), any(t), small(8));
            case 21: return t.write(any(t), small(19));
            case 22: return t.word(small(9));
            default: return t.astray();
        }
    }

    private static void fail(String words) {
        System.out.println(words);
        System.exit(1);
    }

    /** A call asks count() up to six times for its arguments; what is answered behind the 512th call is free. */
    private static long run(int round) {
        Tape t = new Tape();
        seed = round;
        long all = 0;
        while (t.calls() < 505) all = all * 31 + call(t);
        int astray = t.astray();
        if (astray != 0) fail("run " + round + ": astray() answered " + astray + ", due is 0");
        return all;
    }

    private static void runOn(int round) {
        Tape t = Tape.beyondPromised();
        seed = round;
        while (t.calls() < 2000) call(t);
    }

    public static void main(String[] args) {
        int rounds = args.length > 0 ? Integer.parseInt(args[0]) : 300;
        for (int round = 0; round < rounds; round++) {
            if (run(round) != run(round)) fail("run " + round + " gave other answers when it was made again");
            runOn(round);
        }
        System.out.println(rounds + " runs of any calls ended");
    }
}
