import java.lang.reflect.Field;
import java.lang.reflect.Method;
import java.lang.reflect.Modifier;
import java.util.ArrayList;
import java.util.List;

/** For each promise of the document: ordinary inputs, the edges that it names, and wrong inputs. */
public final class PromiseTests extends Checks {
    private static final String FACE = """
        public int astray()
        public int cell(long,long)
        public int clear()
        public int compare(int,int,int)
        public int count()
        public int end(int)
        public int feed(int,int,int,int,int)
        public int fused(int,int,int)
        public int has(int,long)
        public int is(int,int)
        public int literal()
        public int mark(int,int)
        public int markOf(int)
        public int one(int,int)
        public int power(int,int)
        public int two(int,int,int)
        public int write(int,int)
        public long high(int)
        public long low(int)
        public long number(int,int)
        public long word(int)
        public static final int BAD
        public static final int FULL""";

    private static void constantsAndFace() {
        sentence("face");
        due("BAD", IntervalTape.BAD, BAD);
        due("FULL", IntervalTape.FULL, FULL);
        List<String> members = new ArrayList<>();
        for (Method m : IntervalTape.class.getDeclaredMethods()) {
            if (!Modifier.isPrivate(m.getModifiers()) && !m.isSynthetic()) members.add(m.toString());
        }
        for (Field f : IntervalTape.class.getDeclaredFields()) {
            if (!Modifier.isPrivate(f.getModifiers()) && !f.isSynthetic()) members.add(f.toString());
        }
        members.sort(null);
        due("members", String.join("\n", members).replace("IntervalTape.", ""), FACE);
        due("constructors", IntervalTape.class.getConstructors().length, 1);
        due("final", Modifier.isFinal(IntervalTape.class.getModifiers()) ? 1 : 0, 1);
    }

    private static void promise1() {
        sentence("1 a new object");
        Tape t = new Tape();
        due("count()", t.count(), 0);
        due("astray()", t.astray(), 0);
        for (int i = -1; i < 9; i++) due("word(" + i + ")", t.word(i), 0);
        due("low(0)", t.low(0), BAD);
        due("end(0)", t.end(0), BAD);
        due("clear()", t.clear(), 0);
        due("literal()", t.literal(), 0);
        dueIll(t, "literal of an empty tape", 0);
        due("a second object has its own cells", new Tape().count(), 0);
    }

    private static void promise2() {
        sentence("2 feed");
        Tape t = new Tape();
        for (int i = 1; i <= 20; i++) due("feed " + i, t.feed(0x20202020, 0x20202020, 0x20202020, 0x20202020, 0x20202020), 20 * i);
        due("feed 21", t.feed(0, 0, 0, 0, 0), FULL);
        due("end(19) after FULL", t.end(19), 399);
        due("feed with 399", t.feed(0, 0, 0, 0, 0), FULL);
        due("end(1) without a feed", t.end(1), BAD);
        Tape u = new Tape();
        for (int i = 1; i <= 19; i++) u.feed(0x20202020, 0x20202020, 0x20202020, 0x20202020, 0x20202020);
        due("end(20)", u.end(20), 380);
        due("feed to 400", u.feed(0x5B312C32, 0x5D5F6465, 0x66202020, 0x20202020, 0x20202020), 400);
        due("feed beyond 400", u.feed(0, 0, 0, 0, 0), FULL);
        due("literal()", u.literal(), 0);
        dueCell(u, "400 bytes", 0, 1, 2, DEF);
        due("feed after the tape was used up", u.feed(0x5B2D312C, 0x315D0000, 0, 0, 0), 20);
        due("end(6)", u.end(6), 6);
        dueCell(u, "highest byte first", u.literal(), -1, 1, COM);
    }

    private static void promise3() {
        sentence("3 end");
        Tape t = new Tape();
        due("end(5) on a new object", t.end(5), BAD);
        t.feed(0x5B315D20, 0, 0, 0, 0);
        due("end(-1)", t.end(-1), BAD);
        due("end(21)", t.end(21), BAD);
        due("end(4) after wrong ones", t.end(4), 4);
        due("end(4) again", t.end(4), BAD);
        due("end(0) again", t.end(0), BAD);
        due("feed", t.feed(0x31323334, 0, 0, 0, 0), 24);
        due("end(0)", t.end(0), 4);
        due("end(0) after end(0)", t.end(0), BAD);
        due("feed", t.feed(0x20202020, 0x20202020, 0x20202020, 0x20202020, 0x20202020), 24);
        due("feed", t.feed(0x5F636F6D, 0, 0, 0, 0), 44);
        due("end(0) takes the last feed alone", t.end(0), 24);
        due("end(20) has no other feed", t.end(20), BAD);
        dueCell(t, "text", t.literal(), 1, 1, COM);
        due("end(3) of a tape that is used up", t.end(3), BAD);
        t.feed(0x5B325D00, 0, 0, 0, 0);
        t.literal();
        due("end(3) after feed and literal", t.end(3), BAD);
        due("feed", t.feed(0x5B325D00, 0, 0, 0, 0), 20);
        due("clear()", t.clear(), 2);
        due("end(3) after clear", t.end(3), 3);
        dueCell(t, "the tape stayed", t.literal(), 2, 2, COM);
    }

    private static void promise4Brackets() {
        sentence("4 literal");
        dueText("[1.5,2.75]", 1.5, 2.75, COM);
        dueText("  \t[ 1.5 ,\t2.75 ]_DeF\t ", 1.5, 2.75, DEF);
        dueText("[1.5]", 1.5, 1.5, COM);
        dueText("[ -.5e1 ]", -5, -5, COM);
        dueText("[5.]", 5, 5, COM);
        dueText("[+5.E+001,1e2]_trv", 50, 100, TRV);
        dueText("[0.1]", Math.nextDown(0.1), 0.1, COM);
        dueText("[-0.1]", -0.1, -Math.nextDown(0.1), COM);
        dueText("[-0,-0.0]", 0, 0, COM);
        dueText("[1/3,2/3]_dac", 1.0 / 3, Math.nextUp(2.0 / 3), DAC);
        dueText("[-1/3]", -Math.nextUp(1.0 / 3), -1.0 / 3, COM);
        dueText("[004/002]", 2, 2, COM);
        dueText("[0/7]", 0, 0, COM);
        dueText("[0x1.8p1,0XAP-1]", 3, 5, COM);
        dueText("[0x.8p0,0x1.p0]", 0.5, 1, COM);
        dueText("[-0x1p-1074]", -Double.MIN_VALUE, -Double.MIN_VALUE, COM);
        dueText("[0x1p-1075]", 0, Double.MIN_VALUE, COM);
        dueText("[0x1p-9999,0x1p9999]", 0, Double.POSITIVE_INFINITY, DAC);
        dueText("[0x1.fffffffffffffp1023]", Double.MAX_VALUE, Double.MAX_VALUE, COM);
        dueText("[0x1.fffffffffffff8p1023]", Double.MAX_VALUE, Double.POSITIVE_INFINITY, DAC);
        dueText("[1e999]", Double.MAX_VALUE, Double.POSITIVE_INFINITY, DAC);
        dueText("[1e400]_com", Double.MAX_VALUE, Double.POSITIVE_INFINITY, DAC);
        dueText("[-1e400,1]_com", Double.NEGATIVE_INFINITY, 1, DAC);
        dueText("[-1e-999]", -Double.MIN_VALUE, 0, COM);
        dueText("[entire]", Double.NEGATIVE_INFINITY, Double.POSITIVE_INFINITY, DAC);
        dueText("[ ENTIRE ]_def", Double.NEGATIVE_INFINITY, Double.POSITIVE_INFINITY, DEF);
        dueText("[,]", Double.NEGATIVE_INFINITY, Double.POSITIVE_INFINITY, DAC);
        dueText("[ , ]_dac", Double.NEGATIVE_INFINITY, Double.POSITIVE_INFINITY, DAC);
        dueText("[-inf,+Infinity]", Double.NEGATIVE_INFINITY, Double.POSITIVE_INFINITY, DAC);
        dueText("[-infinity,]", Double.NEGATIVE_INFINITY, Double.POSITIVE_INFINITY, DAC);
        dueText("[,2]", Double.NEGATIVE_INFINITY, 2, DAC);
        dueText("[2,]_trv", 2, Double.POSITIVE_INFINITY, TRV);
        dueText("[2,inf]", 2, Double.POSITIVE_INFINITY, DAC);
        dueEmptyTexts("[]", "[ ]", "[\t]", "[empty]", "[ Empty ]", "[]_trv", " [empty]_TRV ");
    }

    private static void promise4Ill() {
        sentence("4 literal, ill");
        String[] texts = {"", " ", "[", "]", "[nai]", "[nai]_trv", "[NaI]", "[1", "1]", "1", "[1,2", "[1 2]", "[1,2]]", "[[1,2]",
            "[1,2]_", "[1,2]_co", "[1,2]_comm", "[1,2]_ill", "[1,2] _com", "[1,2]_ com", "[1,2]com", "[1,2]__com", "[1,2,3]",
            "[2,1]", "[1,0.999999999999999999999999999999999999999999]", "[1e-400,0]", "[1/3,0.333333333333333333333333]",
            "[0x1p-2000,0x1p-2001]", "[1e999,1e998]", "[]_com", "[]_dac", "[empty]_def", "[empty]_ill", "[entire]_com", "[,]_com", "[1,]_com",
            "[,1]_com", "[-inf,1]_com", "[1,+inf]_com", "[entire]_ill", "[inf]", "[-inf]", "[+inf]", "[inf,inf]", "[-inf,-inf]", "[inf,]",
            "[+inf,1]", "[1,-inf]", "[-infin,1]", "[- inf,1]", "[1,+ inf]", "[1,infinit]", "[.]", "[-]", "[+]", "[e5]", "[.e5]", "[1e]",
            "[1e+]", "[1e1000]", "[1e0001]", "[1e 5]", "[1.2.3]", "[--1]", "[+-1]", "[- 1]", "[1_com]", "[0x1]", "[0x1.8]", "[0xp1]",
            "[0x.p1]", "[0x1p]", "[0x1p10000]", "[0x1p00001]", "[0x1g]", "[0x1.1.1p0]", "[x1p1]", "[1/0]", "[1/000]", "[1/]", "[/3]",
            "[1./3]", "[1/3.]", "[1/3e1]", "[1 /3]", "[1/ 3]", "[1/-3]", "[1/3/5]", "[0x1/3]", "[em pty]", "[emptyy]", "[entire,]",
            "[1,2_com", "[.,2]", "[-,2]", "[1e,2]", "[1/0,2]", "[0x1,2]", "[1a]", "[a]", "[1/a]", "[1ea]", "[0x1pa]",
            "[1,2]\0", "\0[1,2]", "[1\n,2]", "[1,2]\u00a0", "[\u00b1]", "[1;2]", "[,,]", "[1,,2]"};
        dueIllTexts(texts);
    }

    private static void promise4Uncertain() {
        sentence("4 literal, M ? R V X");
        dueText("3.5?", Math.nextDown(3.45), Math.nextUp(3.55), COM);
        dueText("3?", 2.5, 3.5, COM);
        dueText("3.?", 2.5, 3.5, COM);
        dueText("-.5?5", -1, 0, COM);
        dueText("+3?1", 2, 4, COM);
        dueText("3?0", 3, 3, COM);
        dueText("3?1u", 3, 4, COM);
        dueText("3?1D", 2, 3, COM);
        dueText("3?u", 3, 3.5, COM);
        dueText("3?d_def", 2.5, 3, DEF);
        dueText(" 3?1E1 ", 20, 40, COM);
        dueText("25?5e-1", 2, 3, COM);
        dueText("3?ue+2", 300, 350, COM);
        dueText("0?12", -12, 12, COM);
        dueText("5??", Double.NEGATIVE_INFINITY, Double.POSITIVE_INFINITY, DAC);
        dueText("5??u", 5, Double.POSITIVE_INFINITY, DAC);
        dueText("5??d_trv", Double.NEGATIVE_INFINITY, 5, TRV);
        dueText("5??ue2", 500, Double.POSITIVE_INFINITY, DAC);
        dueText("1?e999", Double.MAX_VALUE, Double.POSITIVE_INFINITY, DAC);
        dueText("1?e999_com", Double.MAX_VALUE, Double.POSITIVE_INFINITY, DAC);
        dueText("1?1e-999", 0, Double.MIN_VALUE, COM);
        dueText("0.0?0", 0, 0, COM);
        String[] texts = {"?", ".?", "-?", "3", "3??_com", "3??u_com", "3??d_com", "3???", "3?ud", "3?du", "3?uu", "3?e", "3?e1234", "3?1.5", "3?-1",
            "3?+1", "3e1?", "[3?]", "3?]", "3 ?", "3? 1", "3?1 u", "1.2.3?", "0x3?", "1/3?", "3?1e2u", "3?_ill", "3?1_", "++3?", "3?1,2"};
        dueIllTexts(texts);
    }

    private static void promise4Tape() {
        sentence("4 literal, the tape");
        Tape t = new Tape();
        due("literal() of no bytes", t.literal(), 0);
        dueIll(t, "no bytes", 0);
        due("first", read(t, "[1,2]"), 1);
        due("the tape is used up", t.literal(), 2);
        dueIll(t, "no bytes again", 2);
        read(t, "[empty]");
        dueCell(t, "after an empty one", read(t, "[1,2]"), 1, 2, COM);
        t.one(3, cell(t, -2, -1));
        dueCell(t, "after a result that is empty", read(t, "3?1"), 2, 4, COM);
        read(t, "[entire]");
        dueCell(t, "after an unbounded one", read(t, "[1,2]_com"), 1, 2, COM);
        read(t, "[1,2");
        dueCell(t, "after an ill one", read(t, "[1,2]_com"), 1, 2, COM);
        StringBuilder zeros = new StringBuilder("[");
        for (int i = 0; i < 390; i++) zeros.append('9');
        dueText(zeros + "e-390]", Math.nextDown(1.0), 1, COM);
    }

    private static void promise5() {
        sentence("5 cell");
        Tape t = new Tape();
        due("cell(1, 2)", cell(t, 1, 2), 0);
        dueCell(t, "cell(1, 2)", 0, 1, 2, COM);
        due("cell(-0, -0)", cell(t, -0.0, -0.0), 1);
        dueBits(t, "cell(-0, -0)", 1, 0, 0, COM);
        dueBits(t, "cell(-1, -0)", cell(t, -1, -0.0), bits(-1), 0, COM);
        dueBits(t, "entire", t.cell(MINUS_INF, INF), MINUS_INF, INF, DAC);
        dueBits(t, "above", t.cell(MOST, INF), MOST, INF, DAC);
        dueBits(t, "below", t.cell(MINUS_INF, MOST | Long.MIN_VALUE), MINUS_INF, MOST | Long.MIN_VALUE, DAC);
        dueBits(t, "least floats", t.cell(LEAST | Long.MIN_VALUE, LEAST), LEAST | Long.MIN_VALUE, LEAST, COM);
        dueIll(t, "low above high", cell(t, 2, 1));
        dueIll(t, "infinity alone", t.cell(INF, INF));
        dueIll(t, "-infinity alone", t.cell(MINUS_INF, MINUS_INF));
        dueIll(t, "the empty one's ends", t.cell(INF, MINUS_INF));
        dueIll(t, "a NaN below", t.cell(NAN, 0));
        dueIll(t, "a NaN above", t.cell(0, NAN));
        dueIll(t, "another NaN", t.cell(INF + 1, bits(1)));
        dueIll(t, "a NaN with a sign", t.cell(0, -1L));
    }

    private static void promise6() {
        sentence("6 mark");
        Tape t = new Tape();
        int box = cell(t, 1, 2), open = entire(t), none = empty(t), ill = ill(t);
        for (int m = TRV; m <= COM; m++) {
            dueCell(t, "bounded " + m, t.mark(box, m), 1, 2, m);
            dueBits(t, "entire " + m, t.mark(open, m), MINUS_INF, INF, Math.min(m, DAC));
            dueEmpty(t, "empty " + m, t.mark(none, m));
            dueIll(t, "ill " + m, t.mark(ill, m));
        }
        dueCell(t, "a mark may go up again", t.mark(t.mark(box, TRV), COM), 1, 2, COM);
        due("markOf of the first", t.markOf(box), COM);
        int n = t.count();
        due("mark 0", t.mark(box, 0), BAD);
        due("mark 5", t.mark(box, 5), BAD);
        due("mark -1", t.mark(box, -1), BAD);
        due("no such cell", t.mark(n, 1), BAD);
        due("cell -1", t.mark(-1, 1), BAD);
        due("count()", t.count(), n);
    }

    private static void promise7() {
        sentence("7 one");
        Tape t = new Tape();
        double inf = Double.POSITIVE_INFINITY;
        int box = cell(t, -1, 2);
        dueCell(t, "-x", t.one(0, box), -2, 1, COM);
        dueCell(t, "1/x over 0", t.one(1, box), -inf, inf, TRV);
        dueCell(t, "1/x", t.one(1, cell(t, 3, 4)), 0.25, Math.nextUp(1.0 / 3), COM);
        dueCell(t, "1/x from 0", t.one(1, cell(t, 0, 4)), 0.25, inf, TRV);
        dueCell(t, "1/x to 0", t.one(1, cell(t, -4, 0)), -inf, -0.25, TRV);
        dueEmpty(t, "1/0", t.one(1, cell(t, 0, 0)));
        dueCell(t, "1/x above", t.one(1, cell(t, 4, inf)), 0, 0.25, DAC);
        dueCell(t, "1/least", t.one(1, t.cell(LEAST, LEAST)), Double.MAX_VALUE, inf, DAC);
        dueCell(t, "x*x", t.one(2, box), 0, 4, COM);
        dueCell(t, "x*x beyond", t.one(2, t.cell(MOST, MOST)), Double.MAX_VALUE, inf, DAC);
        dueCell(t, "root", t.one(3, cell(t, 2, 9)), Math.nextDown(Math.sqrt(2)), 3, COM);
        dueCell(t, "root from 0", t.one(3, cell(t, 0, 0)), 0, 0, COM);
        dueCell(t, "root of part", t.one(3, cell(t, -1, 4)), 0, 2, TRV);
        dueEmpty(t, "root of none", t.one(3, cell(t, -2, -1)));
        dueCell(t, "root unbounded", t.one(3, cell(t, 4, inf)), 2, inf, DAC);
        dueCell(t, "size", t.one(4, cell(t, -3, 2)), 0, 3, COM);
        dueCell(t, "size below", t.one(4, cell(t, -3, -2)), 2, 3, COM);
        promise7Steps(t);
        int ill = ill(t), none = empty(t), weak = t.mark(box, DEF);
        for (int op = 0; op < 10; op++) {
            dueIll(t, "one(" + op + ", ill)", t.one(op, ill));
            dueEmpty(t, "one(" + op + ", empty)", t.one(op, none));
        }
        due("the operand's mark", t.markOf(t.one(0, weak)), DEF);
        int n = t.count();
        due("one(-1, x)", t.one(-1, box), BAD);
        due("one(10, x)", t.one(10, box), BAD);
        due("one(0, -1)", t.one(0, -1), BAD);
        due("one(0, n)", t.one(0, n), BAD);
        due("count()", t.count(), n);
    }

    private static void promise7Steps(Tape t) {
        double inf = Double.POSITIVE_INFINITY;
        dueCell(t, "sign", t.one(5, cell(t, -1, 2)), -1, 1, DEF);
        dueCell(t, "sign above", t.one(5, cell(t, 1, 2)), 1, 1, COM);
        dueCell(t, "sign far above", t.one(5, cell(t, 1, inf)), 1, 1, DAC);
        dueCell(t, "sign of 0", t.one(5, cell(t, 0, 0)), 0, 0, DAC);
        dueCell(t, "sign from 0", t.one(5, cell(t, 0, 1)), 0, 1, DEF);
        dueCell(t, "ceil", t.one(6, cell(t, 0.5, 1)), 1, 1, DAC);
        dueCell(t, "ceil inside", t.one(6, cell(t, 0.5, 0.75)), 1, 1, COM);
        dueCell(t, "ceil from 1", t.one(6, cell(t, 1, 1.5)), 1, 2, DEF);
        dueCell(t, "ceil below 0", t.one(6, cell(t, -0.5, -0.25)), 0, 0, COM);
        dueCell(t, "ceil unbounded", t.one(6, cell(t, 0.5, inf)), 1, inf, DEF);
        dueCell(t, "floor", t.one(7, cell(t, 1, 1.5)), 1, 1, DAC);
        dueCell(t, "floor inside", t.one(7, cell(t, -1.5, -1.25)), -2, -2, COM);
        dueCell(t, "floor to 1", t.one(7, cell(t, 0.5, 1)), 0, 1, DEF);
        dueCell(t, "trunc", t.one(8, cell(t, -1.5, 1.5)), -1, 1, DEF);
        dueCell(t, "trunc around 0", t.one(8, cell(t, -0.5, 0.5)), 0, 0, COM);
        dueCell(t, "trunc of 0", t.one(8, cell(t, 0, 0)), 0, 0, COM);
        dueCell(t, "trunc of 1", t.one(8, cell(t, 1, 1)), 1, 1, DAC);
        dueCell(t, "trunc from -1", t.one(8, cell(t, -1.5, -1)), -1, -1, DAC);
        dueCell(t, "round", t.one(9, cell(t, 0.5, 1.5)), 0, 2, DEF);
        dueCell(t, "round of a half", t.one(9, cell(t, 2.5, 2.5)), 2, 2, DAC);
        dueCell(t, "round to a half", t.one(9, cell(t, 1.75, 2.5)), 2, 2, DAC);
        dueCell(t, "round inside", t.one(9, cell(t, 1.75, 2.25)), 2, 2, COM);
        dueCell(t, "round of a whole one", t.one(9, cell(t, 3, 3)), 3, 3, COM);
        dueCell(t, "round below a half", t.one(9, cell(t, 0.49999999999999994, 0.49999999999999994)), 0, 0, COM);
        dueCell(t, "round far", t.one(9, cell(t, 2251799813685249.5, 2251799813685249.5)), 2251799813685250.0, 2251799813685250.0, DAC);
        dueCell(t, "ceil far", t.one(6, cell(t, 1e300, 1e300)), 1e300, 1e300, DAC);
    }

    private static void promise8() {
        sentence("8 two");
        Tape t = new Tape();
        double inf = Double.POSITIVE_INFINITY;
        int a = cell(t, 1, 2), b = cell(t, -3, 4), most = t.cell(MOST, MOST), zero = cell(t, 0, 0);
        dueCell(t, "+", t.two(0, a, b), -2, 6, COM);
        dueCell(t, "+ rounded", t.two(0, cell(t, 0.1, 0.1), cell(t, 0.2, 0.2)), 0.3, Math.nextUp(0.3), COM);
        dueCell(t, "+ beyond", t.two(0, most, most), Double.MAX_VALUE, inf, DAC);
        dueCell(t, "+ a little", t.two(0, most, t.cell(LEAST, LEAST)), Double.MAX_VALUE, inf, DAC);
        double ones = 9007199254740991.0, far = ones * 8796093022208.0;
        dueCell(t, "+ to one more bit", t.two(0, cell(t, far, far), cell(t, ones, ones)),
            0x1p96 + 511 * 0x1p44, 0x1p96 + 512 * 0x1p44, COM);
        int subnormal = t.cell(0x000FFFFFFFFFFFFFL, 0x000FFFFFFFFFFFFFL), least = t.cell(LEAST, LEAST);
        dueCell(t, "+ to the least of full width", t.two(0, subnormal, least), Double.MIN_NORMAL, Double.MIN_NORMAL, COM);
        dueCell(t, "+ below it", t.two(0, subnormal, zero), Math.nextDown(Double.MIN_NORMAL), Math.nextDown(Double.MIN_NORMAL), COM);
        dueCell(t, "-", t.two(1, a, b), -3, 5, COM);
        dueCell(t, "*", t.two(2, a, b), -6, 8, COM);
        dueCell(t, "0 * entire", t.two(2, zero, entire(t)), 0, 0, DAC);
        dueCell(t, "* of least ones", t.two(2, t.cell(LEAST, LEAST), t.cell(LEAST, LEAST)), 0, Double.MIN_VALUE, COM);
        dueCell(t, "/", t.two(3, b, cell(t, 3, 3)), -1, Math.nextUp(4.0 / 3), COM);
        dueCell(t, "/ over 0", t.two(3, a, b), -inf, inf, TRV);
        dueCell(t, "/ from 0", t.two(3, a, cell(t, 0, 4)), 0.25, inf, TRV);
        dueCell(t, "/ to 0", t.two(3, a, cell(t, -4, 0)), -inf, -0.25, TRV);
        dueEmpty(t, "/ 0", t.two(3, a, zero));
        dueEmpty(t, "0 / 0", t.two(3, zero, zero));
        dueCell(t, "0 / b", t.two(3, zero, b), 0, 0, TRV);
        dueCell(t, "/ unbounded", t.two(3, a, cell(t, 2, inf)), 0, 1, DAC);
        dueCell(t, "min", t.two(4, a, b), -3, 2, COM);
        dueCell(t, "max", t.two(5, a, b), 1, 4, COM);
        dueCell(t, "the weaker mark", t.two(0, t.mark(a, DAC), t.mark(b, DEF)), -2, 6, DEF);
    }

    private static void promise8Refusals() {
        sentence("8 two, operands that are ill, empty or not there");
        Tape t = new Tape();
        int a = cell(t, 1, 2), b = cell(t, -3, 4);
        int ill = ill(t), none = empty(t);
        for (int op = 0; op < 12; op++) {
            dueIll(t, "two(" + op + ", ill, a)", t.two(op, ill, a));
            dueIll(t, "two(" + op + ", a, ill)", t.two(op, a, ill));
            dueIll(t, "two(" + op + ", empty, ill)", t.two(op, none, ill));
            if (op < 7 || op > 9) dueEmpty(t, "two(" + op + ", empty, a)", t.two(op, none, a));
            if (op < 7 || op > 9) dueEmpty(t, "two(" + op + ", a, empty)", t.two(op, a, none));
        }
        int n = t.count();
        due("two(-1, a, b)", t.two(-1, a, b), BAD);
        due("two(12, a, b)", t.two(12, a, b), BAD);
        due("two(0, -1, b)", t.two(0, -1, b), BAD);
        due("two(0, a, n)", t.two(0, a, n), BAD);
        due("count()", t.count(), n);
    }

    private static void promise8Sets() {
        sentence("8 two, sets");
        Tape t = new Tape();
        int a = cell(t, 1, 2), b = cell(t, -3, 4);
        double inf = Double.POSITIVE_INFINITY;
        int none = empty(t), half = cell(t, 0.5, 1.5), above = cell(t, 1, inf), all = entire(t);
        dueCell(t, "both", t.two(6, a, half), 1, 1.5, TRV);
        dueCell(t, "both, one number", t.two(6, a, cell(t, 2, 3)), 2, 2, TRV);
        dueEmpty(t, "both, none", t.two(6, a, cell(t, 2.5, 3)));
        dueCell(t, "either", t.two(7, a, cell(t, 5, 6)), 1, 6, TRV);
        dueCell(t, "either, one empty", t.two(7, none, a), 1, 2, TRV);
        dueCell(t, "either, other empty", t.two(7, a, none), 1, 2, TRV);
        dueEmpty(t, "either, both empty", t.two(7, none, none));
        dueCell(t, "cancel", t.two(8, b, a), -4, 2, TRV);
        dueCell(t, "cancel as wide", t.two(8, a, half), 0.5, 0.5, TRV);
        dueCell(t, "cancel wider", t.two(8, a, b), -inf, inf, TRV);
        dueEmpty(t, "cancel empty, bounded", t.two(8, none, a));
        dueEmpty(t, "cancel empty, empty", t.two(8, none, none));
        dueCell(t, "cancel empty, unbounded", t.two(8, none, above), -inf, inf, TRV);
        dueCell(t, "cancel bounded, empty", t.two(8, a, none), -inf, inf, TRV);
        dueCell(t, "cancel unbounded, empty", t.two(8, above, none), -inf, inf, TRV);
        dueCell(t, "cancel unbounded", t.two(8, above, a), -inf, inf, TRV);
        dueCell(t, "cancel entire", t.two(8, all, all), -inf, inf, TRV);
        // The widths differ by far less than a float near them could tell.
        int wide = cell(t, -1, Double.MIN_VALUE), narrow = cell(t, -1, 0);
        dueCell(t, "cancel by exact widths", t.two(8, narrow, wide), -inf, inf, TRV);
        dueCell(t, "cancel by exact widths", t.two(8, wide, narrow), 0, Double.MIN_VALUE, TRV);
        dueCell(t, "cancel the negative", t.two(9, b, a), -1, 5, TRV);
        dueCell(t, "cancel the negative, wider", t.two(9, a, b), -inf, inf, TRV);
        dueEmpty(t, "cancel the negative of empty", t.two(9, none, none));
        dueCell(t, "cancel the negative, y empty", t.two(9, a, none), -inf, inf, TRV);
    }

    private static void dueParts(Tape t, String what, int x, int y, double[] first, double[] second) {
        int a = t.two(10, x, y), b = t.two(11, x, y);
        if (first == null) dueEmpty(t, what + " 10", a); else dueCell(t, what + " 10", a, first[0], first[1], TRV);
        if (second == null) dueEmpty(t, what + " 11", b); else dueCell(t, what + " 11", b, second[0], second[1], TRV);
    }

    private static void promise8Parts() {
        sentence("8 two, parts");
        Tape t = new Tape();
        double inf = Double.POSITIVE_INFINITY;
        int above = cell(t, 1, 2), below = cell(t, -2, -1), around = cell(t, -1, 1), y = cell(t, -4, 8), zero = cell(t, 0, 0);
        int up = cell(t, 0, 4), down = cell(t, -4, 0);
        double[] all = {-inf, inf};
        dueCell(t, "10 is x / y", t.two(10, above, cell(t, 2, 4)), 0.25, 1, COM);
        dueCell(t, "10 is x / y with its mark", t.two(10, t.mark(above, DEF), cell(t, 2, inf)), 0, 1, DEF);
        dueEmpty(t, "11 of x / y", t.two(11, above, cell(t, 2, 4)));
        dueParts(t, "above over both", above, y, new double[] {-inf, -0.25}, new double[] {0.125, inf});
        dueParts(t, "below over both", below, y, new double[] {-inf, -0.125}, new double[] {0.25, inf});
        dueParts(t, "above over up", above, up, new double[] {0.25, inf}, null);
        dueParts(t, "above over down", above, down, new double[] {-inf, -0.25}, null);
        dueParts(t, "below over up", below, up, new double[] {-inf, -0.25}, null);
        dueParts(t, "below over down", below, down, new double[] {0.25, inf}, null);
        dueParts(t, "0 in both", around, y, all, null);
        dueParts(t, "0 in both, y just 0", around, zero, all, null);
        dueParts(t, "x 0, y 0", zero, zero, all, null);
        dueParts(t, "0 from x's end", cell(t, 0, 1), y, all, null);
        dueParts(t, "y just 0", above, zero, null, null);
        dueParts(t, "entire y", above, entire(t), new double[] {-inf, 0}, new double[] {0, inf});
        dueParts(t, "unbounded x", cell(t, 3, inf), cell(t, -3, inf), new double[] {-inf, -1}, new double[] {0, inf});
        dueParts(t, "y as narrow as can be", t.cell(LEAST, LEAST), cell(t, -Double.MIN_VALUE, Double.MIN_VALUE),
            new double[] {-inf, -1}, new double[] {1, inf});
        dueParts(t, "rounded", cell(t, 1, 1), cell(t, -3, 3), new double[] {-inf, -1.0 / 3}, new double[] {1.0 / 3, inf});
    }

    private static void promise9() {
        sentence("9 fused");
        Tape t = new Tape();
        double inf = Double.POSITIVE_INFINITY, e = Math.ulp(1.0);
        int a = cell(t, 1, 2), b = cell(t, -3, 4), c = cell(t, 10, 20);
        dueCell(t, "fused", t.fused(a, b, c), 4, 28, COM);
        // 1 - e * e, which a rounded product could not tell.
        int p = cell(t, 1 + e, 1 + e), q = cell(t, 1 - e, 1 - e);
        dueCell(t, "rounded once", t.fused(p, q, cell(t, -1, -1)), -e * e, -e * e, COM);
        int most = t.cell(MOST, MOST), minus = t.one(0, most);
        dueCell(t, "through beyond the floats", t.fused(most, cell(t, 2, 2), minus), Double.MAX_VALUE, Double.MAX_VALUE, COM);
        dueCell(t, "beyond", t.fused(most, most, a), Double.MAX_VALUE, inf, DAC);
        dueCell(t, "0 times entire", t.fused(cell(t, 0, 0), entire(t), c), 10, 20, DAC);
        dueCell(t, "an unbounded z", t.fused(a, b, cell(t, 1, inf)), -5, inf, DAC);
        dueCell(t, "the weakest mark", t.fused(a, b, t.mark(c, TRV)), 4, 28, TRV);
        int ill = ill(t), none = empty(t);
        dueIll(t, "ill x", t.fused(ill, none, a));
        dueIll(t, "ill y", t.fused(a, ill, a));
        dueIll(t, "ill z", t.fused(a, a, ill));
        dueEmpty(t, "empty x", t.fused(none, a, a));
        dueEmpty(t, "empty y", t.fused(a, none, a));
        dueEmpty(t, "empty z", t.fused(a, a, none));
        int n = t.count();
        due("no x", t.fused(-1, a, a), BAD);
        due("no y", t.fused(a, n, a), BAD);
        due("no z", t.fused(a, a, n), BAD);
        due("count()", t.count(), n);
    }

    private static void promise10() {
        sentence("10 power");
        Tape t = new Tape();
        double inf = Double.POSITIVE_INFINITY;
        int a = cell(t, -2, 3), zero = cell(t, 0, 0), up = cell(t, 0, 2), down = cell(t, -2, 0), all = entire(t);
        dueCell(t, "x^0", t.power(a, 0), 1, 1, COM);
        dueCell(t, "entire^0", t.power(all, 0), 1, 1, DAC);
        dueCell(t, "0^0", t.power(zero, 0), 1, 1, COM);
        dueCell(t, "x^1", t.power(a, 1), -2, 3, COM);
        dueCell(t, "x^2", t.power(a, 2), 0, 9, COM);
        dueCell(t, "x^3", t.power(a, 3), -8, 27, COM);
        dueCell(t, "x^40", t.power(cell(t, -2, 1), 40), 0, 1099511627776.0, COM);
        dueCell(t, "x^-1", t.power(a, -1), -inf, inf, TRV);
        dueCell(t, "x^-2 around 0", t.power(a, -2), 1.0 / 9, inf, TRV);
        dueCell(t, "x^-2", t.power(cell(t, 2, 4), -2), 0.0625, 0.25, COM);
        dueCell(t, "x^-3 below 0", t.power(cell(t, -4, -2), -3), -0.125, -0.015625, COM);
        dueCell(t, "x^-3 from 0", t.power(up, -3), 0.125, inf, TRV);
        dueCell(t, "x^-3 to 0", t.power(down, -3), -inf, -0.125, TRV);
        dueCell(t, "x^-4 to 0", t.power(down, -4), 0.0625, inf, TRV);
        dueCell(t, "entire^-2", t.power(all, -2), 0, inf, TRV);
        dueCell(t, "x^-40", t.power(cell(t, 2, inf), -40), 0, 1 / 1099511627776.0, DAC);
        dueCell(t, "beyond", t.power(cell(t, 1e10, 1e10), 40), Double.MAX_VALUE, inf, DAC);
        dueCell(t, "below the floats", t.power(cell(t, 1e10, 1e10), -40), 0, Double.MIN_VALUE, COM);
        dueEmpty(t, "0^-1", t.power(zero, -1));
        dueEmpty(t, "empty^0", t.power(empty(t), 0));
        dueIll(t, "ill^0", t.power(ill(t), 0));
        due("the operand's mark", t.markOf(t.power(t.mark(a, DEF), 3)), DEF);
        int n = t.count();
        due("power(x, 41)", t.power(a, 41), BAD);
        due("power(x, -41)", t.power(a, -41), BAD);
        due("power(-1, 1)", t.power(-1, 1), BAD);
        due("power(n, 1)", t.power(n, 1), BAD);
        due("count()", t.count(), n);
    }

    private static void promise11And12() {
        sentence("11 count, 12 clear");
        Tape t = new Tape();
        for (int i = 0; i < 5; i++) {
            due("count()", t.count(), i);
            due("cell()", t.cell(0, 0), i);
        }
        t.one(77, 0);
        due("count() after BAD", t.count(), 5);
        due("write", t.write(0, 1), 7);
        t.feed(0x5B315D00, 0, 0, 0, 0);
        due("clear()", t.clear(), 5);
        due("count()", t.count(), 0);
        due("clear() again", t.clear(), 0);
        due("markOf(0)", t.markOf(0), BAD);
        due("the out stays", out(t, 7), "[0]_com");
        due("end() may follow the feed() before", t.end(3), 3);
        due("numbers begin again", t.literal(), 0);
        dueCell(t, "the tape stayed", 0, 1, 1, COM);
    }

    private static void promise13To15() {
        sentence("13 low, 14 high, 15 markOf");
        Tape t = new Tape();
        dueBits(t, "a cell", cell(t, -0.1, 0.1), bits(-0.1), bits(0.1), COM);
        dueBits(t, "entire", entire(t), MINUS_INF, INF, DAC);
        dueBits(t, "empty", empty(t), INF, MINUS_INF, TRV);
        dueBits(t, "ill", ill(t), NAN, NAN, ILL);
        dueBits(t, "no sign on 0", t.one(0, cell(t, 0, 0)), 0, 0, COM);
        for (int no : new int[] {-1, t.count(), Integer.MIN_VALUE, Integer.MAX_VALUE}) dueBits(t, "no such cell", no, BAD, BAD, BAD);
    }

    private static void dueNumbers(Tape t, int cell, double... want) {
        for (int what = 0; what < 5; what++) {
            due(written(t, cell, 3) + " number " + what, t.number(cell, what), want[what] == 0 ? 0 : bits(want[what]));
        }
    }

    private static void promise16() {
        sentence("16 number");
        Tape t = new Tape();
        double inf = Double.POSITIVE_INFINITY, most = Double.MAX_VALUE, least = Double.MIN_VALUE, e = Math.ulp(1.0);
        dueNumbers(t, cell(t, -1, 4), 1.5, 2.5, 5, 4, 0);
        dueNumbers(t, cell(t, -4, -1), -2.5, 1.5, 3, 4, 1);
        dueNumbers(t, cell(t, 3, 3), 3, 0, 0, 3, 3);
        dueNumbers(t, entire(t), 0, inf, inf, inf, 0);
        dueNumbers(t, cell(t, 2, inf), most, inf, inf, inf, 2);
        dueNumbers(t, cell(t, -inf, -2), -most, inf, inf, inf, 2);
        dueNumbers(t, cell(t, -inf, 2), -most, inf, inf, inf, 0);
        dueNumbers(t, cell(t, -most, most), 0, most, inf, most, 0);
        dueNumbers(t, cell(t, most, most), most, 0, 0, most, most);
        dueNumbers(t, cell(t, 0, least), 0, least, least, least, 0);
        dueNumbers(t, cell(t, -least, 0), 0, least, least, least, 0);
        dueNumbers(t, cell(t, least, 2 * least), 2 * least, least, least, 2 * least, least);
        // A middle between two floats goes to the even one, and the farther end is told from there.
        dueNumbers(t, cell(t, 1, 1 + e), 1, e, e, 1 + e, 1);
        dueNumbers(t, cell(t, 1 + e, 1 + 2 * e), 1 + 2 * e, e, e, 1 + 2 * e, 1 + e);
        dueNumbers(t, cell(t, -1, least), -0.5, Math.nextUp(0.5), Math.nextUp(1.0), 1, 0);
        int none = empty(t), ill = ill(t), box = cell(t, 1, 2);
        for (int what = 0; what < 5; what++) {
            due("empty", t.number(none, what), NAN);
            due("ill", t.number(ill, what), NAN);
        }
        due("number(x, -1)", t.number(box, -1), BAD);
        due("number(x, 5)", t.number(box, 5), BAD);
        due("number(ill, 5)", t.number(ill, 5), BAD);
        due("number(-1, 0)", t.number(-1, 0), BAD);
        due("number(n, 0)", t.number(t.count(), 0), BAD);
    }

    private static void dueIs(Tape t, String what, int cell, String want) {
        StringBuilder b = new StringBuilder();
        for (int i = 0; i < 5; i++) b.append(t.is(cell, i));
        due(what, b.toString(), want);
    }

    private static void promise17() {
        sentence("17 is");
        Tape t = new Tape();
        dueIs(t, "a cell", cell(t, 1, 2), "00010");
        dueIs(t, "one number", cell(t, 2, 2), "00011");
        dueIs(t, "0", cell(t, -0.0, 0), "00011");
        dueIs(t, "entire", entire(t), "01000");
        dueIs(t, "unbounded", t.cell(0, INF), "00000");
        dueIs(t, "unbounded below", t.cell(MINUS_INF, 0), "00000");
        dueIs(t, "empty", empty(t), "10000");
        dueIs(t, "ill", ill(t), "00100");
        due("is(x, -1)", t.is(0, -1), BAD);
        due("is(x, 5)", t.is(0, 5), BAD);
        due("is(-1, 0)", t.is(-1, 0), BAD);
        due("is(n, 2)", t.is(t.count(), 2), BAD);
    }

    private static void promise18() {
        sentence("18 has");
        Tape t = new Tape();
        int box = cell(t, -1, 2), all = entire(t), none = empty(t), ill = ill(t), zero = cell(t, 0, 0);
        due("low", t.has(box, bits(-1)), 1);
        due("high", t.has(box, bits(2)), 1);
        due("inside", t.has(box, bits(0.1)), 1);
        due("below", t.has(box, bits(Math.nextDown(-1.0))), 0);
        due("above", t.has(box, bits(Math.nextUp(2.0))), 0);
        due("-0", t.has(zero, bits(-0.0)), 1);
        due("least", t.has(zero, LEAST), 0);
        due("greatest", t.has(all, MOST), 1);
        due("infinity", t.has(all, INF), 0);
        due("-infinity", t.has(all, MINUS_INF), 0);
        due("NaN", t.has(all, NAN), 0);
        due("another NaN", t.has(all, -1L), 0);
        due("of the empty one", t.has(none, 0), 0);
        due("of an ill one", t.has(ill, 0), 0);
        due("no such cell", t.has(5, 0), BAD);
        due("cell -1", t.has(-1, 0), BAD);
    }

    private static void dueCompared(Tape t, String what, int x, int y, String want) {
        StringBuilder b = new StringBuilder();
        for (int how = 0; how < 8; how++) b.append(t.compare(x, y, how));
        due(what, b.toString(), want);
    }

    private static void promise19() {
        sentence("19 compare");
        Tape t = new Tape();
        double inf = Double.POSITIVE_INFINITY;
        int a = cell(t, 1, 2), none = empty(t), all = entire(t), ill = ill(t), above = cell(t, 1, inf), below = cell(t, -inf, 1);
        dueCompared(t, "the same", a, t.mark(a, TRV), "11100000");
        dueCompared(t, "in", a, cell(t, 1, 3), "01100000");
        dueCompared(t, "inside", a, cell(t, 0, 3), "01001000");
        dueCompared(t, "around", cell(t, 0, 3), a, "00000000");
        dueCompared(t, "touching", a, cell(t, 2, 3), "00110100");
        dueCompared(t, "one number", cell(t, 2, 2), cell(t, 2, 2), "11110000");
        dueCompared(t, "below", a, cell(t, 3, 4), "00110111");
        dueCompared(t, "above", cell(t, 3, 4), a, "00000001");
        dueCompared(t, "across", a, cell(t, 1.5, 4), "00100100");
        dueCompared(t, "in entire", a, all, "01001000");
        dueCompared(t, "entire in entire", all, all, "11101100");
        dueCompared(t, "above in above", above, above, "11100000");
        dueCompared(t, "above in wider", cell(t, 2, inf), above, "01001000");
        dueCompared(t, "above before narrower", above, cell(t, 2, inf), "00100100");
        dueCompared(t, "below in below", below, below, "11100000");
        dueCompared(t, "below before above", below, above, "00110100");
        dueCompared(t, "empty and empty", none, none, "11111111");
        dueCompared(t, "empty and a", none, a, "01011011");
        dueCompared(t, "a and empty", a, none, "00010011");
        dueCompared(t, "ill and a", ill, a, "00000000");
        dueCompared(t, "a and ill", a, ill, "00000000");
        dueCompared(t, "ill and ill", ill, ill, "00000000");
        due("how -1", t.compare(a, a, -1), BAD);
        due("how 8", t.compare(a, a, 8), BAD);
        due("how 8 of ill", t.compare(ill, a, 8), BAD);
        due("no x", t.compare(-1, a, 0), BAD);
        due("no y", t.compare(a, t.count(), 0), BAD);
    }

    private static void promise20() {
        sentence("20 write");
        Tape t = new Tape();
        double inf = Double.POSITIVE_INFINITY, most = Double.MAX_VALUE;
        dueWritten(t, empty(t), 3, "[empty]_trv");
        dueWritten(t, entire(t), 0, "[entire]_dac");
        dueWritten(t, t.mark(entire(t), DEF), 18, "[entire]_def");
        dueWritten(t, ill(t), 1, "[nai]");
        int box = cell(t, -1.25, 1234.5), tenth = cell(t, 0.1, 0.1);
        dueWritten(t, box, 1, "[-2e0,2e3]_com");
        dueWritten(t, box, 2, "[-1.3e0,1.3e3]_com");
        dueWritten(t, box, 3, "[-1.25e0,1.24e3]_com");
        dueWritten(t, box, 6, "[-1.25000e0,1.23450e3]_com");
        dueWritten(t, box, 0, "[-0x1.4000000000000p0,0x1.34a0000000000p10]_com");
        dueWritten(t, tenth, 1, "[1e-1,2e-1]_com");
        dueWritten(t, tenth, 17, "[1.0000000000000000e-1,1.0000000000000001e-1]_com");
        dueWritten(t, tenth, 18, "[1.00000000000000005e-1,1.00000000000000006e-1]_com");
        dueWritten(t, cell(t, 1, 1), 1, "[1e0]_com");
        dueWritten(t, cell(t, 0, 0), 0, "[0]_com");
        dueWritten(t, cell(t, 0, 0), 5, "[0]_com");
        dueWritten(t, cell(t, -10, 0), 2, "[-1.0e1,0]_com");
        dueWritten(t, cell(t, 99.5, 99.5), 2, "[9.9e1,1.0e2]_com");
        dueWritten(t, cell(t, -99.5, 999.5), 1, "[-1e2,1e3]_com");
        dueWritten(t, cell(t, most, most), 1, "[1e308,2e308]_com");
        dueWritten(t, cell(t, -most, inf), 2, "[-1.8e308,inf]_dac");
        dueWritten(t, cell(t, -inf, -most), 0, "[-inf,-0x1.fffffffffffffp1023]_dac");
        dueWritten(t, cell(t, Double.MIN_VALUE, Double.MIN_NORMAL), 0, "[0x0.0000000000001p-1022,0x1.0000000000000p-1022]_com");
        dueWritten(t, cell(t, -Double.MIN_VALUE, Double.MIN_VALUE), 1, "[-5e-324,5e-324]_com");
        dueWritten(t, cell(t, Double.MIN_VALUE, Double.MIN_VALUE), 18, "[4.94065645841246544e-324,4.94065645841246545e-324]_com");
        dueWritten(t, t.cell(0x000FFFFFFFFFFFFFL, 0x000FFFFFFFFFFFFFL), 0, "[0x0.fffffffffffffp-1022]_com");
        dueWritten(t, cell(t, -1.5e-300, -1.5e-300), 0, "[" + Double.toHexString(-1.5e-300) + "]_com");
        dueWritten(t, t.mark(box, TRV), 1, "[-2e0,2e3]_trv");
        String before = written(t, box, 3);
        due("digits -1", t.write(box, -1), BAD);
        due("digits 19", t.write(box, 19), BAD);
        due("cell -1", t.write(-1, 3), BAD);
        due("cell n", t.write(t.count(), 3), BAD);
        due("what is BAD leaves the out", out(t, before.length()), before);
        t.feed(0x5B315D00, 0, 0, 0, 0);
        t.write(box, 19);
        due("what is BAD leaves the tape", t.end(3), 3);
    }

    private static void promise21() {
        sentence("21 word");
        Tape t = new Tape();
        due("nothing written", t.word(0), 0);
        t.write(cell(t, 1, 2), 1);
        due("[1e0,2e0", t.word(0), 0x3065322C3065315BL);
        due("]_com", t.word(1), 0x6D6F635F5DL);
        due("behind its end", t.word(2), 0);
        t.write(cell(t, -1, Double.MAX_VALUE), 18);
        t.write(cell(t, 0, 0), 1);
        due("[0]_com", t.word(0), 0x6D6F635F5D305BL);
        due("nothing of a longer text before", t.word(1), 0);
        for (int i : new int[] {-1, 7, 8, 100, Integer.MIN_VALUE, Integer.MAX_VALUE, 1 << 29, 1 << 28}) due("word(" + i + ")", t.word(i), 0);
        t.clear();
        due("clear() leaves it", t.word(0), 0x6D6F635F5D305BL);
    }

    public static void main(String[] args) {
        constantsAndFace();
        promise1();
        promise2();
        promise3();
        promise4Brackets();
        promise4Ill();
        promise4Uncertain();
        promise4Tape();
        promise5();
        promise6();
        promise7();
        promise8();
        promise8Sets();
        promise8Parts();
        promise8Refusals();
        promise9();
        promise10();
        promise11And12();
        promise13To15();
        promise16();
        promise17();
        promise18();
        promise19();
        promise20();
        promise21();
        finish();
    }
}
