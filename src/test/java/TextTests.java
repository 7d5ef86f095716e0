import java.math.BigDecimal;

/** The document's TEXTS with their table: each sentence that names a boundary case, for texts read and written. */
public final class TextTests extends Checks {
    private static final double[] MINUS_TENTH = {-0.1, -down(0.1)};

    /** The greatest float not above a number. */
    private static double below(String number) {
        double near = Double.parseDouble(number);
        return new BigDecimal(near).compareTo(new BigDecimal(number)) > 0 ? down(near) : near;
    }

    /** The least float not below a number. */
    private static double above(String number) {
        double near = Double.parseDouble(number);
        return new BigDecimal(near).compareTo(new BigDecimal(number)) < 0 ? up(near) : near;
    }

    private static void dueTexts(double low, double high, int mark, String... texts) {
        for (String text : texts) dueText(text, low, high, mark);
    }

    private static void cases() {
        sentence("TEXTS: upper and lower case are the same");
        dueTexts(0x1.abcdefp5, FAR, DAC, "[0x1.abcdefp5,inf]_dac", "[0X1.ABCDEFP5,INF]_DAC", "[0x1.AbCdEfP5,iNfInItY]_dAc");
        dueTexts(-FAR, 100, TRV, "[-INFINITY,1E2]_TRV", "[-Inf,1e2]_Trv");
        dueTexts(-FAR, FAR, DEF, "[ENTIRE]_DEF", "[Entire]_dEf");
        dueTexts(300, 400, COM, "3?1UE2_COM", "3?1ue2_com");
        dueTexts(200, 300, COM, "3?1DE2", "3?1dE2");
        dueEmptyTexts("[EMPTY]", "[eMPTy]_tRV");
        // What differs from a letter by the same bit is no letter.
        dueIllTexts("[\u001a1]", "{1]", "[1}", "{1,2}", "[1,2]\u007fcom", "[1,2\u001d");
        // Bytes from 128 on are no letters either, though they differ from them by one bit.
        dueIllTexts("[\u00e5mpty]", "[empt\u00f9]", "[1\u00e55]", "[\u00b1]", "\u00db1]", "[1\u00dd", "[1]\u00df\u0063om", "[1,2]_co\u00ed");
    }

    private static void blanks() {
        sentence("TEXTS: blanks (32, 9) may stand at both ends, behind [ and before ], and around a comma");
        dueTexts(1, 2, COM, " [1,2]", "\t[1,2]", "[1,2] ", "[1,2]\t", "[ 1,2]", "[\t1,2]", "[1,2 ]", "[1,2\t]", "[1 ,2]", "[1\t,2]",
            "[1, 2]", "[1,\t2]", " \t [ \t 1 \t , \t 2 \t ] \t ", " [1,2]_com ", "\t\t[1,2]_com\t\t");
        dueTexts(3, 3, COM, "[ 3 ]", "[\t3\t]", "  [3]  ");
        dueTexts(2, 4, COM, " 3?1", "3?1\t", " \t3?1_com \t");
        dueTexts(-FAR, FAR, DAC, "[ entire ]", "[\tentire\t]", "[ , ]", "[ ,]", "[, ]", "[\t,\t]", "[ -inf , +inf ]");
        dueTexts(-FAR, 2, DAC, "[ , 2 ]");
        dueTexts(2, FAR, DAC, "[ 2 , ]");
        dueEmptyTexts("[ ]", "[]", "[\t]", "[ \t \t ]", "[ empty ]", " [ ] ");
        dueTexts(1, 1, COM, " ".repeat(199) + "[1]" + "\t".repeat(198));
        dueIllTexts("[1,2] _com", "[1,2]_ com", "[1,2]\t_com", "[1,2]_\tcom", "[1,2]_c om", "[- 1]", "[+ 1]", "[1 .5]", "[1. 5]", "[1 5]",
            "[1 e5]", "[1e 5]", "[1e+ 5]", "[0 x1p0]", "[0x 1p0]", "[0x1 p0]", "[0x1p 0]", "[1 /3]", "[1/ 3]", "[ent ire]", "[em pty]",
            "[- inf,1]", "[1,+ inf]", "[1,in f]", "[1,inf inity]", "3 ?", "3? 1", "3?1 u", "3?1 e2", "3?1e 2", "3? ?", "- 3?1", "3?1 _com");
        dueIllTexts("\n[1,2]", "[1,2]\n", "[1,2]\r", "[\n1]", "[1\u000b]", "[1,\f2]", "[1,2]\0", "\0[1,2]", "[1\0]", "[1,2]\u00a0", "[\u00a01]",
            "[1,2]\u0008", "[1,2]!", "[1,2]\u0089", "[\b]", "[\n]");
    }

    private static void texts() {
        sentence("TEXTS: BARE or BARE _ MARK, the mark being com, dac, def, trv or ill");
        dueText("[1,2]_com", 1, 2, COM);
        dueText("[1,2]_dac", 1, 2, DAC);
        dueText("[1,2]_def", 1, 2, DEF);
        dueText("[1,2]_trv", 1, 2, TRV);
        dueText("3?1_dac", 2, 4, DAC);
        dueIllTexts("[1,2]_ill", "[1,2]_", "[1,2]_c", "[1,2]_co", "[1,2]_comm", "[1,2]_com_com", "[1,2]__com", "[1,2]com", "[1,2]-com",
            "[1,2]_nai", "[1,2]_emp", "[1,2]_tr", "[1,2]_dax", "[1,2]_deg", "[1,2]_0", "[1,2]_4", "_com", "_", "com", "[1,2]_comtrv", "[1,2]_omd",
            "3?1_", "3?1_co", "3?1com", "3?1_comm");
        sentence("TEXTS: a tape of no bytes, of blanks, of halves of a text is ill");
        dueIllTexts("", " ", "\t\t", "[", "]", "][", "[[]]", "[[1]]", "[1", "1]", "1", "1,2", "[1,2", "1,2]", "[1,2]]", "[[1,2]", "[1][2]",
            "[1,2][1,2]", "[1,2] [1,2]", "[1;2]", "[1:2]", "(1,2)", "[1,2,3]", "[,,]", "[1,,2]", "[,1,]", "[1,2,]", ",", "[1_com]", "[1,2_com]");
    }

    private static void words() {
        sentence("TEXTS: [ ] and [empty]: the empty one");
        dueEmptyTexts("[]", "[ ]", "[empty]", "[]_trv", "[empty]_trv");
        dueIllTexts("[empt]", "[emptyy]", "[e]", "empty", "[empty", "empty]", "[empty,]", "[,empty]", "[empty,empty]", "[1,empty]", "[-empty]");
        sentence("TEXTS: [entire] and [,]: entire");
        dueTexts(-FAR, FAR, DAC, "[entire]", "[,]", "[entire]_dac", "[,]_dac");
        dueTexts(-FAR, FAR, TRV, "[entire]_trv", "[,]_trv");
        dueIllTexts("[entir]", "[entiree]", "entire", "[entire", "entire]", "[entire,]", "[,entire]", "[1,entire]", "[-entire]");
        sentence("TEXTS: [nai]: ill, without a mark");
        dueIllTexts("[nai]", "[NaI]", "[ nai ]", "[nai]_com", "[nai]_trv", "[nai]_ill", "nai", "[na]", "[naii]");
    }

    private static void ends() {
        sentence("TEXTS: [ NUMBER ]: that number alone");
        dueText("[-0.1]", MINUS_TENTH[0], MINUS_TENTH[1], COM);
        dueText("[7]", 7, 7, COM);
        dueIllTexts("[-inf]", "[inf]", "[+inf]", "[-infinity]", "[infinity]", "[+infinity]");
        sentence("TEXTS: [ NUMBER , NUMBER ]: either of which may be missing (then the interval is unbounded there)");
        dueText("[,7]", -FAR, 7, DAC);
        dueText("[7,]", 7, FAR, DAC);
        dueText("[,-0.1]", -FAR, MINUS_TENTH[1], DAC);
        dueText("[-0.1,]", MINUS_TENTH[0], FAR, DAC);
        dueText("[,1e999]", -FAR, FAR, DAC);
        dueText("[-1e999,]", -FAR, FAR, DAC);
        sentence("TEXTS: the first one may be -inf, the second one inf or +inf (and infinity for inf)");
        dueTexts(-FAR, 7, DAC, "[-inf,7]", "[-infinity,7]");
        dueTexts(7, FAR, DAC, "[7,inf]", "[7,+inf]", "[7,infinity]", "[7,+infinity]");
        dueTexts(-FAR, FAR, DAC, "[-inf,inf]", "[-infinity,+infinity]", "[-inf,]", "[,inf]", "[,+infinity]");
        dueIllTexts("[inf,7]", "[+inf,7]", "[infinity,7]", "[+infinity,7]", "[7,-inf]", "[7,-infinity]", "[inf,inf]", "[inf,]", "[+inf,]",
            "[-inf,-inf]", "[,-inf]", "[inf,-inf]", "[--inf,7]", "[7,++inf]", "[7,+-inf]", "[-in,7]", "[-infi,7]", "[-infinit,7]", "[7,in]",
            "[7,infi]", "[7,infinit]", "[7,infinityy]", "[7,inff]", "[7,inf1]", "[7,inity]", "[-inity,7]");
    }

    private static void decimalNumbers() {
        sentence("NUMBERS: an optional sign and a row of digits with perhaps one point (a digit at least)");
        dueTexts(5, 5, COM, "[5]", "[+5]", "[5.]", "[05]", "[005.00]", "[+5.]", "[0000000000000000000000000000005.0]");
        dueTexts(0.5, 0.5, COM, "[.5]", "[+.5]", "[0.5]", "[0.50000000000000000000000000000000]");
        dueTexts(-0.5, -0.5, COM, "[-.5]", "[-0.5]");
        dueTexts(0, 0, COM, "[0]", "[.0]", "[0.]", "[-0]", "[+0]", "[00]", "[0e999]", "[-0.0e-999]");
        dueIllTexts("[.]", "[-]", "[+]", "[-.]", "[+.]", "[..5]", "[5..]", "[.5.]", "[1.2.3]", "[--5]", "[++5]", "[-+5]", "[+-5]", "[5-]", "[5+]",
            "[a]", "[5a]", "[:]", "[/]", "[5,.]", "[.,5]", "[-,5]", "[5,-]", "[5,+]");
        sentence("NUMBERS: perhaps followed by e, an optional sign and 1 to 3 digits");
        dueTexts(500, 500, COM, "[5e2]", "[5e+2]", "[5e02]", "[5e002]", "[5.e2]", "[.5e3]", "[5000e-1]", "[5000e-01]", "[5000e-001]");
        dueTexts(5, 5, COM, "[5e0]", "[5e-0]", "[5e+000]");
        dueText("[5e999]", BIG, FAR, DAC);
        dueText("[-5e999]", -FAR, -BIG, DAC);
        dueText("[5e-999]", 0, TINY, COM);
        dueText("[-5e-999]", -TINY, 0, COM);
        dueIllTexts("[5e]", "[5e+]", "[5e-]", "[5e1000]", "[5e0001]", "[5e-0001]", "[5e+1000]", "[e5]", "[.e5]", "[-e5]", "[5e1.5]", "[5e.5]",
            "[5e5.]", "[5ee5]", "[5e5e5]", "[5e--5]", "[5e+-5]", "[5e5/3]", "[5p5]", "[5e,6]", "[4,5e]", "[4,5e1000]");
    }

    private static void baseSixteenNumbers() {
        sentence("NUMBERS: the sign, 0x, a row of digits of base 16 with perhaps one point (a digit at least)");
        dueTexts(10, 10, COM, "[0xap0]", "[+0xap0]", "[0x0ap0]", "[0xa.p0]", "[0xa.0p0]", "[0x.ap4]", "[0x00000000000000000000a.p0]");
        dueText("[-0x.8p0]", -0.5, -0.5, COM);
        dueText("[0x9f.fp0]", 159.9375, 159.9375, COM);
        dueTexts(0, 0, COM, "[0x0p0]", "[-0x.0p9999]", "[0x0.p-9999]");
        dueIllTexts("[0xp0]", "[0x.p0]", "[0x]", "[0x.]", "[-0xp1]", "[0xgp0]", "[0x1gp0]", "[0x1.2.3p0]", "[x1p0]", "[1x1p0]", "[00x1p0]", "[0x-1p0]",
            "[0x0x1p0]", "[0x@p0]", "[0x`p0]", "[0x:p0]", "[0x1/3]", "[0x1p0/3]", "[1/0x3p0]");
        sentence("NUMBERS: p, an optional sign and 1 to 4 digits of base 10 (a power of 2)");
        dueTexts(4, 4, COM, "[0x1p2]", "[0x1p+2]", "[0x1p02]", "[0x1p002]", "[0x1p0002]", "[0x10p-2]", "[0x10p-0002]");
        dueText("[0x1p10]", 1024, 1024, COM);
        dueText("[0x1p9999]", BIG, FAR, DAC);
        dueText("[-0x1p9999]", -FAR, -BIG, DAC);
        dueText("[0x1p-9999]", 0, TINY, COM);
        dueText("[-0x1p-9999]", -TINY, 0, COM);
        dueText("[0x" + "0".repeat(380) + "1p-1]", 0.5, 0.5, COM);
        dueText("[0x1" + "0".repeat(380) + "p-1520]", 1, 1, COM);
        dueText("[0x." + "0".repeat(380) + "1p1524]", 1, 1, COM);
        dueIllTexts("[0x1]", "[0x1.8]", "[0x1p]", "[0x1p+]", "[0x1p-]", "[0x1p10000]", "[0x1p00000]", "[0x1p-10000]", "[0x1pa]", "[0x1p1a]", "[0x1p1.]",
            "[0x1p--1]", "[0x1pp1]", "[0x1p1p1]", "[0x1e1]", "[0x1,2]", "[1,0x2]");
    }

    private static void fractions() {
        sentence("NUMBERS: the sign, digits, /, digits that are not all 0, without blanks");
        double third = 1.0 / 3;
        dueTexts(third, up(third), COM, "[1/3]", "[+1/3]", "[001/003]", "[2/6]", "[10/0030]");
        dueText("[-1/3]", down(-third), -third, COM);
        dueTexts(0, 0, COM, "[0/1]", "[-0/3]", "[000/7]");
        dueText("[10/5]", 2, 2, COM);
        dueText("[1/1" + "0".repeat(320) + "]", below("1e-320"), above("1e-320"), COM);
        dueText("[1/1" + "0".repeat(390) + "]", 0, TINY, COM);
        dueText("[-1/1" + "0".repeat(390) + "]", -TINY, 0, COM);
        dueText("[1" + "0".repeat(390) + "/1]", BIG, FAR, DAC);
        dueText("[1" + "0".repeat(190) + "/1" + "0".repeat(190) + "]", 1, 1, COM);
        dueIllTexts("[1/0]", "[1/00]", "[0/0]", "[-1/000]", "[1/]", "[/3]", "[-/3]", "[/]", "[1/+3]", "[1/-3]", "[-1/-3]", "[1./3]", "[.1/3]", "[1/3.]",
            "[1/.3]", "[1/3e1]", "[1e1/3]", "[1/3/3]", "[1//3]", "[1/3p1]", "[1/a]", "[1/3a]", "[1\\3]", "[1/0,2]", "[0,1/0]");
    }

    private static void uncertainMiddles() {
        sentence("M ? R V X: M, an optional sign and digits with perhaps one point, also before the first or behind the last (a digit at least)");
        dueTexts(2.5, 3.5, COM, "3?", "+3?", "3.?", "03?", "003.?");
        dueTexts(-3.5, -2.5, COM, "-3?", "-3.?");
        dueTexts(0.25, 0.75, COM, ".50?25", "0.50?25", "+.50?25");
        dueTexts(-0.75, -0.25, COM, "-.50?25", "-0.50?25");
        dueTexts(-0.5, 0.5, COM, "0?", "-0?", "0.?");
        dueIllTexts("?", ".?", "-?", "+?", "-.?", "??", ".??", "?1", "--3?", "+-3?", "1.2.3?", "..3?", "3..?", "3e1?", "0x3?", "0x3p0?", "1/3?", "inf?",
            "-inf?", "a?", "3a?", "[3?]", "[3?", "3?]", "[3?1,4]", "3,4?");
        sentence("M ? R V X: R, nothing (a half), digits, or another ?");
        dueText("3?0", 3, 3, COM);
        dueText("3?1", 2, 4, COM);
        dueText("3?000", 3, 3, COM);
        dueText("3?007", -4, 10, COM);
        dueText("3?12", -9, 15, COM);
        dueText("3??", -FAR, FAR, DAC);
        dueText("1?1" + "0".repeat(390), -FAR, FAR, DAC);
        dueText("1" + "0".repeat(390) + "?1", BIG, FAR, DAC);
        dueIllTexts("3", "3.5", "-3", "3???", "3??1", "3?1?", "3?-1", "3?+1", "3?1.5", "3?.5", "3?1.", "3?a", "3?1/2", "3?inf");
        sentence("M ? R V X: V, nothing, u or d");
        dueText("3?1u", 3, 4, COM);
        dueText("3?1d", 2, 3, COM);
        dueText("3?u", 3, 3.5, COM);
        dueText("3?d", 2.5, 3, COM);
        dueText("-3?1u", -3, -2, COM);
        dueText("-3?1d", -4, -3, COM);
        dueText("3?0u", 3, 3, COM);
        dueText("3?0d", 3, 3, COM);
        dueText("3??u", 3, FAR, DAC);
        dueText("3??d", -FAR, 3, DAC);
        dueText("0??u", 0, FAR, DAC);
        dueIllTexts("3?ud", "3?du", "3?uu", "3?dd", "3?1ud", "3?u1", "3?d1", "3?u?", "3?1c", "3?1v", "3u?", "u", "3u", "3d1?");
    }

    private static void uncertainScales() {
        sentence("M ? R V X: X, nothing, or e, an optional sign and 1 to 3 digits");
        dueTexts(200, 400, COM, "3?1e2", "3?1e+2", "3?1e02", "3?1e002", "3?1e+002", "3000?1000e-1", "3.?1e2");
        dueTexts(300, 350, COM, "3?ue2", "3.0?5ue2", "30?5ue1");
        dueTexts(2, 4, COM, "3?1e0", "3?1e-0", "30?10e-1", "30?10e-001");
        dueText("3??e2", -FAR, FAR, DAC);
        dueText("3??ue2", 300, FAR, DAC);
        dueText("3??de2", -FAR, 300, DAC);
        dueText("3?1e999", BIG, FAR, DAC);
        dueText("-3?1e999", -FAR, -BIG, DAC);
        dueText("3?1e-999", 0, TINY, COM);
        dueText("-3?1e-999", -TINY, 0, COM);
        dueText("1?2e-999", -TINY, TINY, COM);
        dueText("1?2e999", -FAR, FAR, DAC);
        dueIllTexts("3?e", "3?1e", "3?1e+", "3?1e-", "3?1e1000", "3?1e0001", "3?1e1.", "3?1e1.5", "3?1ee1", "3?1e1e1", "3?1p1", "3?e2u", "3?1e2d", "3?1e2?",
            "3e2?1", "3?1e--2");
        sentence("M ? R V X: with U one unit of M's last digit, from M - R U to M + R U, all times 10 to the power of X");
        dueText("3.5?", below("3.45"), above("3.55"), COM);
        dueText("3.50?", below("3.495"), above("3.505"), COM);
        dueText("3.5?5", 3, 4, COM);
        dueText("3.50?5", below("3.45"), above("3.55"), COM);
        dueText("30?5", 25, 35, COM);
        dueText("30.?5", 25, 35, COM);
        dueText("-.25?25", -0.5, 0, COM);
        dueText("0.000?5e3", -5, 5, COM);
    }

    private static void orderOfEnds() {
        sentence("TEXTS: ill, whose first number is above the second one (by the numbers as they are told, however near)");
        dueIllTexts("[2,1]", "[1,-1]", "[-1,-2]", "[0,-1e-999]", "[1e-999,0]", "[1e-999,-1e-999]", "[1e-998,1e-999]", "[1e999,1e998]", "[-1e998,-1e999]",
            "[0x1p9999,0x1p9998]", "[0x1p-9998,0x1p-9999]", "[0x1p9999,1e999]", "[1e-999,0x1p-9999]", "[1/3,0.33333333333333333333333333333]",
            "[0.33333333333333333333333333334,1/3]", "[-1/3,-0.33333333333333333333333333334]", "[2/3,1/3]", "[1/3,1/4]",
            "[1." + "0".repeat(380) + "1,1]", "[1,0." + "9".repeat(380) + "]", "[0x1." + "0".repeat(370) + "1p0,1]", "[0x1p-1,4/9]",
            "[1" + "0".repeat(190) + "1,1" + "0".repeat(191) + "]");
        dueTexts(1, 1, COM, "[1,1]", "[1,1.0]", "[10e-1,0x1p0]", "[3/3,1e0]", "[0x.8p1,5/5]");
        dueTexts(0, 0, COM, "[0,-0]", "[0,-0e-999]", "[-0x0p0,0/3]");
        dueTexts(1.0 / 3, up(1.0 / 3), COM, "[1/3,2/6]", "[1/3,1/3]", "[0.33333333333333333333333333333,1/3]", "[1/3,0.33333333333333333333333333334]");
        dueTexts(BIG, FAR, DAC, "[1e999,1e999]", "[1e998,1e999]", "[0x1p1024,0x1p9999]");
        dueTexts(0, TINY, COM, "[1e-999,1e-999]", "[0x1p-9999,1e-999]", "[0,1e-999]");
        dueText("[1,1." + "0".repeat(380) + "1]", 1, up(1), COM);
        dueText("[0." + "9".repeat(380) + ",1]", down(1), 1, COM);
    }

    private static void marksThatMayNotBe() {
        sentence("TEXTS: ill may not be behind anything");
        dueIllTexts("[1,2]_ill", "[1]_ill", "[empty]_ill", "[ ]_ill", "[entire]_ill", "[,]_ill", "[1,]_ill", "[nai]_ill", "3?_ill", "3??_ill");
        sentence("TEXTS: com, dac, def may not be behind the empty one");
        dueIllTexts("[empty]_com", "[empty]_dac", "[empty]_def", "[ ]_com", "[ ]_dac", "[ ]_def", "[]_com", "[]_dac", "[]_def");
        dueEmptyTexts("[empty]_trv", "[ ]_trv", "[]_trv");
        sentence("TEXTS: com may not be behind one that is told as unbounded");
        dueIllTexts("[entire]_com", "[,]_com", "[1,]_com", "[,1]_com", "[-inf,1]_com", "[1,inf]_com", "[1,+inf]_com", "[-infinity,1]_com",
            "[1,infinity]_com", "[-inf,inf]_com", "3??_com", "3??u_com", "3??d_com", "3??e5_com", "[-1e999,]_com", "[,1e999]_com");
        dueTexts(-FAR, 1, DAC, "[,1]_dac", "[-inf,1]_dac");
        dueTexts(1, FAR, DEF, "[1,]_def", "[1,inf]_def");
        dueTexts(-FAR, FAR, TRV, "[entire]_trv", "[,]_trv", "3??_trv", "[-inf,+inf]_trv");
        dueTexts(-FAR, FAR, DAC, "3??_dac");
    }

    private static void marksOfTexts() {
        sentence("TEXTS: the ends are rounded outward");
        dueText("[0.1,0.2]", down(0.1), 0.2, COM);
        dueText("[-0.2,-0.1]", -0.2, -down(0.1), COM);
        dueText("[0x1.00000000000001p0]", 1, up(1), COM);
        dueText("[-0x1.00000000000001p0]", down(-1), -1, COM);
        dueText("[0x1p-1075,0x3p-1075]", 0, 2 * TINY, COM);
        dueText("[0x0.fffffffffffff8p-1022]", down(Double.MIN_NORMAL), Double.MIN_NORMAL, COM);
        dueText("[9007199254740993]", 9007199254740992.0, 9007199254740994.0, COM);
        dueText("[1e22,1e23]", 1e22, up(1e23), COM);
        sentence("TEXTS: without a mark the cell has the strongest one");
        dueText("[1,2]", 1, 2, COM);
        dueText("[1,]", 1, FAR, DAC);
        dueText("3?", 2.5, 3.5, COM);
        dueText("3??", -FAR, FAR, DAC);
        dueText("[1e999]", BIG, FAR, DAC);
        dueEmptyTexts("[empty]");
        sentence("TEXTS: a com whose interval came to be unbounded by rounding becomes DAC");
        dueText("[1e400]_com", BIG, FAR, DAC);
        dueText("[-1e400]_com", -FAR, -BIG, DAC);
        dueText("[-1e400,1e400]_com", -FAR, FAR, DAC);
        dueText("[1,0x1.fffffffffffff01p1023]_com", 1, FAR, DAC);
        dueText("[1,0x1.fffffffffffffp1023]_com", 1, BIG, COM);
        dueText("[-0x1.fffffffffffffp1023,1]_com", -BIG, 1, COM);
        dueText("1?1e400_com", 0, FAR, DAC);
        dueText("[1e400]_dac", BIG, FAR, DAC);
        dueText("[1e400]_def", BIG, FAR, DEF);
        dueText("[1e400]_trv", BIG, FAR, TRV);
    }

    private static void writtenWords() {
        sentence("WRITTEN: [empty], [entire], [nai]; behind all but [nai] _ and the mark");
        Tape t = new Tape();
        int none = empty(t), all = entire(t), ill = ill(t);
        for (int digits : new int[] {0, 1, 18}) {
            dueWritten(t, none, digits, "[empty]_trv");
            dueWritten(t, all, digits, "[entire]_dac");
            dueWritten(t, ill, digits, "[nai]");
        }
        String[] marks = {"trv", "def", "dac", "com"};
        int x = cell(t, 1, 2);
        for (int m = TRV; m <= COM; m++) dueWritten(t, t.mark(x, m), 1, "[1e0,2e0]_" + marks[m - 1]);
        sentence("WRITTEN: each end being -inf, inf, 0");
        Tape u = new Tape();
        for (int digits : new int[] {0, 1, 2, 18}) {
            dueWritten(u, cell(u, -FAR, 0), digits, "[-inf,0]_dac");
            dueWritten(u, cell(u, 0, FAR), digits, "[0,inf]_dac");
            dueWritten(u, cell(u, -0.0, -0.0), digits, "[0]_com");
        }
        dueWritten(u, cell(u, -FAR, -BIG), 1, "[-inf,-1e308]_dac");
        dueWritten(u, cell(u, BIG, FAR), 1, "[1e308,inf]_dac");
    }

    private static void writtenDigits() {
        sentence("WRITTEN: a digit that is not 0, a point and n - 1 digits (no point for n = 1), e, and the exponent of 10");
        Tape t = new Tape();
        int one = cell(t, 1, 1), tenth = cell(t, 0.1, 0.1), minus = cell(t, -1234.5, -0.0078125);
        dueWritten(t, one, 1, "[1e0]_com");
        dueWritten(t, one, 2, "[1.0e0]_com");
        dueWritten(t, one, 18, "[1.00000000000000000e0]_com");
        dueWritten(t, tenth, 1, "[1e-1,2e-1]_com");
        dueWritten(t, tenth, 18, "[1.00000000000000005e-1,1.00000000000000006e-1]_com");
        dueWritten(t, minus, 1, "[-2e3,-7e-3]_com");
        dueWritten(t, minus, 5, "[-1.2345e3,-7.8125e-3]_com");
        dueWritten(t, minus, 4, "[-1.235e3,-7.812e-3]_com");
        sentence("WRITTEN: rounded outward (also beyond the floats: 2e308)");
        Tape u = new Tape();
        int far = cell(u, -BIG, BIG), least = cell(u, -TINY, TINY), nines = cell(u, -9.5, 99.5), within = cell(u, 9.5, 99.5);
        dueWritten(u, far, 1, "[-2e308,2e308]_com");
        dueWritten(u, far, 2, "[-1.8e308,1.8e308]_com");
        dueWritten(u, far, 18, "[-1.79769313486231571e308,1.79769313486231571e308]_com");
        dueWritten(u, cell(u, BIG, BIG), 1, "[1e308,2e308]_com");
        dueWritten(u, least, 1, "[-5e-324,5e-324]_com");
        dueWritten(u, cell(u, TINY, TINY), 1, "[4e-324,5e-324]_com");
        dueWritten(u, cell(u, -TINY, -TINY), 1, "[-5e-324,-4e-324]_com");
        dueWritten(u, nines, 1, "[-1e1,1e2]_com");
        dueWritten(u, nines, 2, "[-9.5e0,1.0e2]_com");
        dueWritten(u, nines, 3, "[-9.50e0,9.95e1]_com");
        dueWritten(u, within, 1, "[9e0,1e2]_com");
        dueWritten(u, cell(u, down(1), up(1)), 1, "[9e-1,2e0]_com");
        dueWritten(u, cell(u, down(1), up(1)), 15, "[9.99999999999999e-1,1.00000000000001e0]_com");
        dueWritten(u, cell(u, down(-1), up(-1)), 1, "[-2e0,-9e-1]_com");
        dueWritten(u, cell(u, -down(1), down(1)), 15, "[-1.00000000000000e0,1.00000000000000e0]_com");
        dueWritten(u, cell(u, 1e22, 1e23), 1, "[1e22,1e23]_com");
        dueWritten(u, cell(u, 1e23, up(1e23)), 1, "[9e22,2e23]_com");
    }

    private static void writtenInBaseSixteen() {
        sentence("WRITTEN: with n = 0, just as it is, in base 16: 0x1. and 13 digits, p, the exponent of 2");
        Tape t = new Tape();
        dueWritten(t, cell(t, -1.5, 0x1.23456789abcdep10), 0, "[-0x1.8000000000000p0,0x1.23456789abcdep10]_com");
        dueWritten(t, cell(t, 0.5, BIG), 0, "[0x1.0000000000000p-1,0x1.fffffffffffffp1023]_com");
        dueWritten(t, cell(t, Double.MIN_NORMAL, Double.MIN_NORMAL), 0, "[0x1.0000000000000p-1022]_com");
        sentence("WRITTEN: 0x0. and -1022 for E = 0");
        dueWritten(t, cell(t, TINY, TINY), 0, "[0x0.0000000000001p-1022]_com");
        dueWritten(t, cell(t, -TINY, down(Double.MIN_NORMAL)), 0, "[-0x0.0000000000001p-1022,0x0.fffffffffffffp-1022]_com");
        sentence("WRITTEN: exponents have a - if they are below 0, no other sign, and as few digits as can be");
        int[] tens = {0, 9, 10, 99, 100, 300, -1, -9, -10, -99, -100, -300};
        for (int ten : tens) {
            double near = Double.parseDouble("1.5e" + ten);
            dueWritten(t, cell(t, near, near), 1, "[1e" + ten + ",2e" + ten + "]_com");
        }
        int[] twos = {0, 9, 10, 99, 100, 999, 1000, 1023, -1, -10, -100, -999, -1000, -1022};
        for (int two : twos) dueWritten(t, cell(t, Math.scalb(1.0, two), Math.scalb(1.0, two)), 0, "[0x1.0000000000000p" + two + "]_com");
        sentence("WRITTEN: if both ends are written the same, one of them stands alone");
        Tape u = new Tape();
        dueWritten(u, cell(u, 1, 1), 1, "[1e0]_com");
        dueWritten(u, cell(u, -25, -25), 2, "[-2.5e1]_com");
        dueWritten(u, cell(u, -25, -25), 1, "[-3e1,-2e1]_com");
        dueWritten(u, cell(u, 0.1, 0.1), 0, "[0x1.999999999999ap-4]_com");
        dueWritten(u, cell(u, -1, 1), 1, "[-1e0,1e0]_com");
        dueWritten(u, cell(u, 1, 11), 1, "[1e0,2e1]_com");
        dueWritten(u, cell(u, 10, 1e10), 1, "[1e1,1e10]_com");
        dueWritten(u, cell(u, -1e10, -10), 1, "[-1e10,-1e1]_com");
        dueWritten(u, cell(u, 1024, 0x1p100), 0, "[0x1.0000000000000p10,0x1.0000000000000p100]_com");
        dueWritten(u, cell(u, 1, 2), 0, "[0x1.0000000000000p0,0x1.0000000000000p1]_com");
        dueWritten(u, cell(u, 0, 1), 1, "[0,1e0]_com");
        dueWritten(u, cell(u, up(1), up(1)), 0, "[0x1.0000000000001p0]_com");
        dueWritten(u, cell(u, 1, up(1)), 0, "[0x1.0000000000000p0,0x1.0000000000001p0]_com");
    }

    public static void main(String[] args) {
        cases();
        blanks();
        texts();
        words();
        ends();
        decimalNumbers();
        baseSixteenNumbers();
        fractions();
        uncertainMiddles();
        uncertainScales();
        orderOfEnds();
        marksThatMayNotBe();
        marksOfTexts();
        writtenWords();
        writtenDigits();
        writtenInBaseSixteen();
        finish();
    }
}
