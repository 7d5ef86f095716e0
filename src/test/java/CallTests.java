import java.util.Arrays;
import java.util.function.Consumer;
import java.util.function.ToLongFunction;

/** The document's constants and promises 1 to 22: each sentence that names a boundary case of a call. */
public final class CallTests extends Checks {
    private static final int[] NO_CELLS = {-1, -2, Integer.MIN_VALUE, Integer.MAX_VALUE};
    private static final int MOST_CELLS = 3000;
    private static final String TWENTY_BLANKS = " ".repeat(20);

    /** Four cells (bounded, entire, empty, ill), an out, and a tape whose last feed may still be ended. */
    private static Tape busy() {
        Tape t = new Tape();
        cell(t, 1, 2);
        entire(t);
        empty(t);
        ill(t);
        t.write(0, 3);
        feed(t, "[3,", 0);
        t.end(3);
        feed(t, "4]_def and more", 0);
        return t;
    }

    private static String cells(Tape t) {
        StringBuilder b = new StringBuilder();
        int count = t.count();
        for (int c = 0; c < count; c++) b.append(t.low(c)).append(' ').append(t.high(c)).append(' ').append(t.markOf(c)).append('\n');
        return b.toString();
    }

    /** All that the calls of the face can show of an object, which it changes. */
    private static String remains(Tape t) {
        String told = cells(t) + out(t, 64) + t.astray() + ' ' + t.end(6) + ' ' + feed(t, TWENTY_BLANKS, 0) + ' ' + t.end(7);
        return told + ' ' + t.end(1) + ' ' + t.literal() + ' ' + feed(t, "x", 0) + '\n' + cells(t);
    }

    private static void dueRefused(String what, ToLongFunction<Tape> call, long want) {
        Tape t = busy();
        due(what, call.applyAsLong(t), want);
        due("what remains after " + what, remains(t), remains(busy()));
    }

    private static void refusedCalls() {
        sentence("what answers BAD changes nothing");
        for (int no : new int[] {-1, 4, Integer.MIN_VALUE, Integer.MAX_VALUE}) {
            dueRefused("mark(" + no + ", 1)", t -> t.mark(no, 1), BAD);
            dueRefused("one(0, " + no + ")", t -> t.one(0, no), BAD);
            dueRefused("two(0, " + no + ", 0)", t -> t.two(0, no, 0), BAD);
            dueRefused("two(6, 0, " + no + ")", t -> t.two(6, 0, no), BAD);
            dueRefused("fused(" + no + ", 0, 0)", t -> t.fused(no, 0, 0), BAD);
            dueRefused("fused(0, " + no + ", 0)", t -> t.fused(0, no, 0), BAD);
            dueRefused("fused(0, 0, " + no + ")", t -> t.fused(0, 0, no), BAD);
            dueRefused("power(" + no + ", 2)", t -> t.power(no, 2), BAD);
            dueRefused("low(" + no + ")", t -> t.low(no), BAD);
            dueRefused("high(" + no + ")", t -> t.high(no), BAD);
            dueRefused("markOf(" + no + ")", t -> t.markOf(no), BAD);
            dueRefused("number(" + no + ", 0)", t -> t.number(no, 0), BAD);
            dueRefused("is(" + no + ", 0)", t -> t.is(no, 0), BAD);
            dueRefused("has(" + no + ", 0)", t -> t.has(no, 0), BAD);
            dueRefused("compare(" + no + ", 0, 0)", t -> t.compare(no, 0, 0), BAD);
            dueRefused("compare(0, " + no + ", 0)", t -> t.compare(0, no, 0), BAD);
            dueRefused("write(" + no + ", 5)", t -> t.write(no, 5), BAD);
        }
        for (int cell = 0; cell < 4; cell++) {
            int c = cell;
            for (int no : new int[] {-1, 40 + 1, Integer.MIN_VALUE, Integer.MAX_VALUE}) {
                dueRefused("mark(" + c + ", " + no + ")", t -> t.mark(c, no), BAD);
                dueRefused("one(" + no + ", " + c + ")", t -> t.one(no, c), BAD);
                dueRefused("two(" + no + ", " + c + ", 0)", t -> t.two(no, c, 0), BAD);
                dueRefused("number(" + c + ", " + no + ")", t -> t.number(c, no), BAD);
                dueRefused("is(" + c + ", " + no + ")", t -> t.is(c, no), BAD);
                dueRefused("compare(" + c + ", 0, " + no + ")", t -> t.compare(c, 0, no), BAD);
                dueRefused("write(" + c + ", " + no + ")", t -> t.write(c, no), BAD);
                if (no != -1) dueRefused("power(" + c + ", " + no + ")", t -> t.power(c, no), BAD);
                dueRefused("end(" + no + ")", t -> t.end(no), BAD);
            }
        }
    }

    private static void firstRefused() {
        sentence("the first number beside those that a call takes answers BAD, the last one that it takes does not");
        for (int cell = 0; cell < 4; cell++) {
            int c = cell;
            dueRefused("mark 0", t -> t.mark(c, 0), BAD);
            dueRefused("mark 5", t -> t.mark(c, 5), BAD);
            dueRefused("one 10", t -> t.one(10, c), BAD);
            dueRefused("two 12", t -> t.two(12, c, c), BAD);
            dueRefused("power 41", t -> t.power(c, 41), BAD);
            dueRefused("power -41", t -> t.power(c, -41), BAD);
            dueRefused("number 5", t -> t.number(c, 5), BAD);
            dueRefused("is 5", t -> t.is(c, 5), BAD);
            dueRefused("compare 8", t -> t.compare(c, c, 8), BAD);
            dueRefused("write 19", t -> t.write(c, 19), BAD);
            Tape t = busy();
            due("mark 1", t.mark(c, 1), 4);
            due("mark 4", t.mark(c, 4), 5);
            due("one 0", t.one(0, c), 6);
            due("one 9", t.one(9, c), 7);
            due("two 0", t.two(0, c, c), 8);
            due("two 11", t.two(11, c, c), 9);
            due("power 40", t.power(c, 40), 10);
            due("power -40", t.power(c, -40), 11);
            due("of the last cell", t.one(0, 11), 12);
            due("of the first and the last cell", t.fused(0, 12, 12), 13);
            due("number 4 is not BAD", t.number(c, 4) == BAD ? 1 : 0, 0);
            due("is 4 is not BAD", t.is(c, 4) == BAD ? 1 : 0, 0);
            due("compare 7 is not BAD", t.compare(c, c, 7) == BAD ? 1 : 0, 0);
            due("write 18 is not BAD", t.write(c, 18) == BAD ? 1 : 0, 0);
            due("write 0 is not BAD", t.write(c, 0) == BAD ? 1 : 0, 0);
        }
    }

    private static void dueKept(String what, ToLongFunction<Tape> call) {
        Tape t = busy();
        String before = cells(t);
        call.applyAsLong(t);
        due("cells after " + what, cells(t).substring(0, before.length()), before);
        due("end() after " + what, t.end(6), 9);
        due("out after " + what, out(t, 64), "[1.00e0,2.00e0]_com" + "\0".repeat(45));
        dueCell(t, "text after " + what, t.literal(), 3, 4, DEF);
    }

    private static void callsThatMakeAndAsk() {
        sentence("what a call is not told to change stays: cells, tape, what end() may do, and out");
        for (int cell = 0; cell < 4; cell++) {
            int c = cell;
            for (int k = 0; k < 12; k++) {
                int what = k;
                if (what < 10) dueKept("one " + what, t -> t.one(what, c));
                dueKept("two " + what, t -> t.two(what, c, 0));
                if (what < 5) dueKept("number " + what, t -> t.number(c, what));
                if (what < 5) dueKept("is " + what, t -> t.is(c, what));
                if (what < 8) dueKept("compare " + what, t -> t.compare(0, c, what));
            }
            dueKept("mark", t -> t.mark(c, 2));
            dueKept("fused", t -> t.fused(c, 0, 0));
            dueKept("power", t -> t.power(c, -3));
            dueKept("low", t -> t.low(c));
            dueKept("high", t -> t.high(c));
            dueKept("markOf", t -> t.markOf(c));
            dueKept("has", t -> t.has(c, 0));
        }
        dueKept("cell", t -> t.cell(0, 0));
        dueKept("count", t -> t.count());
        dueKept("astray", t -> t.astray());
        dueKept("word", t -> t.word(0));
        dueKept("write", t -> t.write(0, 18) + t.write(0, 3));
    }

    private static Tape full() {
        Tape t = Tape.beyondPromised();
        while (t.count() < MOST_CELLS - 1) t.cell(bits(1), bits(2));
        return t;
    }

    private static void dueFull(Tape t, String what, long got) {
        due(what, got, FULL);
        due("count() after " + what, t.count(), MOST_CELLS);
    }

    /** 3000 cells need more calls than an object is promised to bear: this goes by the words about cells alone. */
    private static void fullCells() {
        sentence("CELLS, 3000 at most: FULL");
        Tape t = full();
        due("the last cell", t.cell(bits(5), bits(6)), MOST_CELLS - 1);
        due("write", t.write(0, 1), 13);
        due("feed", feed(t, "[8] and more", 0), 20);
        dueFull(t, "cell", t.cell(0, 0));
        dueFull(t, "cell that would be ill", t.cell(NAN, NAN));
        dueFull(t, "mark", t.mark(0, 1));
        dueFull(t, "one", t.one(9, 0));
        dueFull(t, "two", t.two(0, 0, 0));
        dueFull(t, "two of sets", t.two(11, 0, MOST_CELLS - 1));
        dueFull(t, "fused", t.fused(0, 1, MOST_CELLS - 1));
        dueFull(t, "power", t.power(0, -40));
        dueCell(t, "the last cell", MOST_CELLS - 1, 5, 6, COM);
        due("no cell behind it", t.markOf(MOST_CELLS), BAD);
        due("astray()", t.astray(), 0);
        due("the out", out(t, 64), "[1e0,2e0]_com" + "\0".repeat(51));
        due("the tape", t.end(3), 3);
        dueFull(t, "literal", t.literal());
        sentence("where both could be answered, BAD is");
        due("mark of no cell", t.mark(MOST_CELLS, 1), BAD);
        due("mark 5", t.mark(0, 5), BAD);
        due("one of no cell", t.one(0, MOST_CELLS), BAD);
        due("one 10", t.one(10, 0), BAD);
        due("two of no x", t.two(0, -1, 0), BAD);
        due("two of no y", t.two(0, 0, MOST_CELLS), BAD);
        due("two 12", t.two(12, 0, 0), BAD);
        due("fused of no x", t.fused(-1, 0, 0), BAD);
        due("fused of no y", t.fused(0, -1, 0), BAD);
        due("fused of no z", t.fused(0, 0, MOST_CELLS), BAD);
        due("power of no cell", t.power(-1, 0), BAD);
        due("power 41", t.power(0, 41), BAD);
        due("power -41", t.power(0, -41), BAD);
        due("count()", t.count(), MOST_CELLS);
        sentence("promise 4: the text is used up, also when it is FULL");
        due("feed", feed(t, "[1]", 0), 20);
        due("literal()", t.literal(), FULL);
        due("end(3): there is no feed() since", t.end(3), BAD);
        due("feed to a tape that is empty again", feed(t, "[7]", 0), 20);
        due("end(3)", t.end(3), 3);
        due("clear()", t.clear(), MOST_CELLS);
        due("what FULL left of the tape", t.literal(), 0);
        dueCell(t, "the text behind it", 0, 7, 7, COM);
    }

    private static void newObject() {
        sentence("promise 1: no cells, an empty tape and out");
        Tape t = new Tape();
        due("count()", t.count(), 0);
        due("astray()", t.astray(), 0);
        for (int i : new int[] {-1, 0, 1, 7, 8}) due("word(" + i + ")", t.word(i), 0);
        for (int n : new int[] {-1, 0, 20, 21}) due("end(" + n + ")", t.end(n), BAD);
        for (int c : new int[] {-1, 0, 1}) {
            due("low", t.low(c), BAD);
            due("high", t.high(c), BAD);
            due("markOf", t.markOf(c), BAD);
            due("number", t.number(c, 0), BAD);
            due("is", t.is(c, 0), BAD);
            due("has", t.has(c, 0), BAD);
            due("compare", t.compare(c, c, 0), BAD);
            due("write", t.write(c, 1), BAD);
            due("mark", t.mark(c, 1), BAD);
            due("one", t.one(0, c), BAD);
            due("two", t.two(0, c, c), BAD);
            due("fused", t.fused(c, c, c), BAD);
            due("power", t.power(c, 0), BAD);
        }
        due("clear()", t.clear(), 0);
        due("feed()", feed(t, "", 0), 20);
        due("end(0)", t.end(0), 0);
        due("literal()", t.literal(), 0);
        dueIll(t, "a text of no bytes", 0);
        due("another object", new Tape().count(), 0);
    }

    private static Tape fed(int times) {
        Tape t = new Tape();
        for (int i = 1; i <= times; i++) due("feed " + i, feed(t, TWENTY_BLANKS, 0), 20 * i);
        return t;
    }

    private static void feedAndItsLimit() {
        sentence("promise 2: twenty bytes come behind the tape, the highest of each number first");
        Tape t = new Tape();
        due("feed", t.feed(0x5B313233, 0x34353637, 0x38392C31, 0x32333435, 0x36373839), 20);
        due("feed", t.feed(0x5D5F6461, 0x63202020, 0x20202020, 0x20202020, 0x20202020), 40);
        dueCell(t, "all bytes in their order", t.literal(), 123456789, 123456789, DAC);
        due("feed", t.feed(0x80808080, -1, -1, -1, -1), 20);
        dueIll(t, "bytes from 128 on", t.literal());
        sentence("promise 2: FULL, changing nothing: there would be more than 400");
        Tape all = fed(20);
        due("with 400", feed(all, "[9]", 0), FULL);
        due("again", feed(all, "", 0), FULL);
        all = fed(19);
        due("end", all.end(20), 380);
        due("from 380", feed(all, "[1,2]_def" + TWENTY_BLANKS, 0), 400);
        due("with 400", feed(all, "[9]", 0), FULL);
        due("literal()", all.literal(), 0);
        dueCell(all, "400 bytes, and none of those refused", 0, 1, 2, DEF);
        due("after the tape was used up", feed(all, "", 0), 20);
        all = fed(20);
        due("end", all.end(1), 381);
        due("with 381", feed(all, "[9]", 0), FULL);
        due("end behind it", all.end(3), BAD);
        all = fed(19);
        due("end", all.end(19), 379);
        due("from 379", feed(all, "", 0), 399);
        due("with 399", feed(all, "", 0), FULL);
        sentence("promise 2: then end() may still follow the feed() before");
        all = fed(19);
        feed(all, "[1,2] [3,4]", 0);
        due("with 400", feed(all, "[9]", 0), FULL);
        due("end(5)", all.end(5), 385);
        due("end(5) again", all.end(5), BAD);
        dueCell(all, "the text", all.literal(), 1, 2, COM);
    }

    private static void endAndWhatItTakes() {
        sentence("promise 3: of the twenty bytes that came last, the first n (0 .. 20) stay");
        for (int n = 0; n <= 20; n++) {
            Tape t = new Tape();
            feed(t, TWENTY_BLANKS, 0);
            feed(t, TWENTY_BLANKS, 0);
            due("end(" + n + ")", t.end(n), 20 + n);
            due("feed", feed(t, "[1]", 0), 40 + n);
            due("end(3)", t.end(3), 23 + n);
            dueCell(t, "the text", t.literal(), 1, 1, COM);
        }
        Tape t = new Tape();
        feed(t, "[1,2]_com", 0);
        t.end(5);
        dueCell(t, "the first five", t.literal(), 1, 2, COM);
        feed(t, "[1,23]", 0);
        t.end(4);
        feed(t, "]", 0);
        t.end(1);
        dueCell(t, "the rest is gone", t.literal(), 1, 2, COM);
        sentence("promise 3: BAD: another n");
        Tape u = new Tape();
        feed(u, "[1]", 0);
        for (int n : new int[] {-1, 21, 22, Integer.MIN_VALUE, Integer.MAX_VALUE, 256, -20}) due("end(" + n + ")", u.end(n), BAD);
        due("end(3) behind those that were BAD", u.end(3), 3);
        sentence("promise 3: BAD: no feed() that was not FULL came since the latest end() that was not BAD");
        due("end(3) again", u.end(3), BAD);
        due("end(0)", u.end(0), BAD);
        due("end(20)", u.end(20), BAD);
        due("feed", feed(u, "", 0), 23);
        due("end(0)", u.end(0), 3);
        due("end(0) again", u.end(0), BAD);
        due("feed", feed(u, TWENTY_BLANKS, 0), 23);
        due("feed", feed(u, TWENTY_BLANKS, 0), 43);
        due("end(20)", u.end(20), 43);
        due("end(20) for the feed before", u.end(20), BAD);
        dueCell(u, "the text", u.literal(), 1, 1, COM);
        Tape all = fed(20);
        due("end(20)", all.end(20), 400);
        due("feed", feed(all, "", 0), FULL);
        due("end() since a feed() that was FULL alone", all.end(20), BAD);
        sentence("promise 3: BAD: no feed() came since the tape was used up");
        Tape v = new Tape();
        feed(v, "[1]", 0);
        v.literal();
        due("end(3)", v.end(3), BAD);
        due("feed", feed(v, "[1]", 0), 20);
        due("end(3)", v.end(3), 3);
        v.literal();
        due("end(3)", v.end(3), BAD);
        v.literal();
        due("end(0) of a tape of no bytes", v.end(0), BAD);
    }

    private static void literals() {
        sentence("promise 4: a new cell of the tape's text: its number, from 0 on");
        Tape t = new Tape();
        due("first", read(t, "[1]"), 0);
        due("an ill one", read(t, "[1"), 1);
        due("third", read(t, "[]"), 2);
        sentence("promise 4: the text is used up");
        put(t, "[1,2]");
        due("literal()", t.literal(), 3);
        due("literal() again", t.literal(), 4);
        dueIll(t, "no text is left", 4);
        due("feed", feed(t, "[3]", 0), 20);
        t.end(3);
        dueCell(t, "the next text", t.literal(), 3, 3, COM);
        put(t, "[1,2");
        t.literal();
        put(t, "]");
        dueIll(t, "an ill text is used up, too", t.literal());
        sentence("promise 4: a tape of no bytes is a text, too: ill");
        Tape u = new Tape();
        dueIll(u, "a new one", u.literal());
        feed(u, "[1]", 0);
        u.end(0);
        dueIll(u, "one that was ended to nothing", u.literal());
        sentence("promise 4: a text of 400 bytes is read from the first to the last");
        dueText("[" + "0".repeat(397) + "7]", 7, 7, COM);
        dueText("[1]" + " ".repeat(397), 1, 1, COM);
        dueText(" ".repeat(393) + "[1]_def", 1, 1, DEF);
        dueIllTexts("[1]" + " ".repeat(396) + "x", "x" + " ".repeat(396) + "[1]", "[" + "0".repeat(399));
    }

    private static void newCells() {
        sentence("promise 5: a new cell from one float to another one; ill if these are no ends of an interval");
        Tape t = new Tape();
        due("first", cell(t, 1, 2), 0);
        due("an ill one", cell(t, 2, 1), 1);
        due("third", t.cell(MINUS_INF, INF), 2);
        dueIll(t, "2 .. 1", 1);
        dueBits(t, "entire", 2, MINUS_INF, INF, DAC);
        dueBits(t, "the widest", t.cell(MOST | Long.MIN_VALUE, MOST), MOST | Long.MIN_VALUE, MOST, COM);
        dueBits(t, "the narrowest", t.cell(LEAST, LEAST), LEAST, LEAST, COM);
    }

    private static void marks() {
        sentence("promise 6: a mark 1 .. 4, whatever that cell's own is, or what is weaker, if that may not be");
        for (int own = TRV; own <= COM; own++) {
            Tape t = new Tape();
            int bounded = t.mark(cell(t, 1, 2), own), all = t.mark(entire(t), own), above = t.mark(cell(t, BIG, FAR), own);
            int below = t.mark(cell(t, -FAR, -BIG), own), none = t.mark(empty(t), own), widest = t.mark(cell(t, -BIG, BIG), own);
            for (int m = TRV; m <= COM; m++) {
                dueCell(t, own + " to " + m, t.mark(bounded, m), 1, 2, m);
                dueCell(t, "the widest " + own + " to " + m, t.mark(widest, m), -BIG, BIG, m);
                dueCell(t, "entire " + own + " to " + m, t.mark(all, m), -FAR, FAR, m == COM ? DAC : m);
                dueCell(t, "above " + own + " to " + m, t.mark(above, m), BIG, FAR, m == COM ? DAC : m);
                dueCell(t, "below " + own + " to " + m, t.mark(below, m), -FAR, -BIG, m == COM ? DAC : m);
                dueEmpty(t, "empty " + own + " to " + m, t.mark(none, m));
            }
            due("the cell itself stays", t.markOf(bounded), own);
        }
        sentence("promise 6: ill for an ill one");
        Tape t = new Tape();
        int ill = ill(t);
        for (int m = TRV; m <= COM; m++) dueIll(t, "mark " + m, t.mark(ill, m));
    }

    private static void counted() {
        sentence("promise 11: how many cells there are");
        Tape t = new Tape();
        due("count()", t.count(), 0);
        int at = 0;
        due("cell", cell(t, 1, 2), at++);
        due("count()", t.count(), at);
        due("literal", t.literal(), at++);
        due("count()", t.count(), at);
        due("mark", t.mark(0, 1), at++);
        due("count()", t.count(), at);
        due("one", t.one(0, 0), at++);
        due("count()", t.count(), at);
        due("two", t.two(11, 0, 0), at++);
        due("count()", t.count(), at);
        due("fused", t.fused(0, 0, 0), at++);
        due("count()", t.count(), at);
        due("power", t.power(0, 0), at++);
        due("count()", t.count(), at);
        t.write(0, 1);
        feed(t, "", 0);
        t.end(0);
        t.astray();
        due("count() after calls that make none", t.count(), at);
    }

    private static void cleared() {
        sentence("promise 12: all cells go: how many there were; numbers begin with 0 again");
        Tape t = busy();
        due("clear()", t.clear(), 4);
        due("count()", t.count(), 0);
        due("low(0)", t.low(0), BAD);
        due("one(0, 3)", t.one(0, 3), BAD);
        due("clear() again", t.clear(), 0);
        due("cell", cell(t, 5, 6), 0);
        dueCell(t, "the new one", 0, 5, 6, COM);
        due("low(1)", t.low(1), BAD);
        sentence("promise 12: the tape with what end() may do, and the out, stay");
        Tape u = busy();
        String before = out(u, 64);
        due("clear()", u.clear(), 4);
        due("out", out(u, 64), before);
        due("end(6)", u.end(6), 9);
        due("clear()", u.clear(), 0);
        due("end(6) again", u.end(6), BAD);
        due("literal()", u.literal(), 0);
        dueCell(u, "the text", 0, 3, 4, DEF);
        u.clear();
        due("end(6) of a tape that is used up", u.end(6), BAD);
        Tape all = fed(20);
        all.clear();
        due("a tape of 400 bytes", feed(all, "", 0), FULL);
    }

    private static void endsOfCells() {
        sentence("promises 13, 14: infinity and -infinity for the empty one, the NaN for an ill one");
        Tape t = busy();
        due("low of the empty one", t.low(2), INF);
        due("high of the empty one", t.high(2), MINUS_INF);
        due("low of an ill one", t.low(3), NAN);
        due("high of an ill one", t.high(3), NAN);
        due("low of entire", t.low(1), MINUS_INF);
        due("high of entire", t.high(1), INF);
        due("mark of an ill one", t.markOf(3), 0);
        sentence("promises 13 to 15: BAD: no such cell");
        for (int no : new int[] {-1, 4, 5, Integer.MIN_VALUE, Integer.MAX_VALUE}) dueBits(t, "cell " + no, no, -1L, -1L, -1);
    }

    private static void dueNumbers(double[] x, double... want) {
        Tape t = new Tape();
        int c = make(t, x);
        for (int what = 0; what < 5; what++) {
            due("number " + what + " of " + Arrays.toString(x), t.number(c, what), answered(want[what]));
        }
    }

    private static void numbersOfCells() {
        sentence("promise 16: the NaN for the empty one and an ill one");
        Tape t = busy();
        for (int what = 0; what < 5; what++) {
            due("empty " + what, t.number(2, what), NAN);
            due("ill " + what, t.number(3, what), NAN);
        }
        sentence("promise 16: the middle is 0 for entire, GREATEST with low bounded alone, -GREATEST with high alone; 1, 2, 3 infinity");
        dueNumbers(ALL, 0, FAR, FAR, FAR, 0);
        dueNumbers(box(5, FAR), BIG, FAR, FAR, FAR, 5);
        dueNumbers(box(-5, FAR), BIG, FAR, FAR, FAR, 0);
        dueNumbers(box(BIG, FAR), BIG, FAR, FAR, FAR, BIG);
        dueNumbers(box(-FAR, -5), -BIG, FAR, FAR, FAR, 5);
        dueNumbers(box(-FAR, 5), -BIG, FAR, FAR, FAR, 0);
        dueNumbers(box(-FAR, -BIG), -BIG, FAR, FAR, FAR, BIG);
        dueNumbers(box(-FAR, 0), -BIG, FAR, FAR, FAR, 0);
        dueNumbers(box(0, FAR), BIG, FAR, FAR, FAR, 0);
        sentence("promise 16: the middle, half the sum of both ends, to the nearest");
        dueNumbers(box(-BIG, BIG), 0, BIG, FAR, BIG, 0);
        dueNumbers(box(BIG), BIG, 0, 0, BIG, BIG);
        dueNumbers(box(0, BIG), BIG / 2, BIG / 2, BIG, BIG, 0);
        dueNumbers(box(BIG / 2, BIG), 0.75 * BIG, 0x1p1022, BIG / 2, BIG, BIG / 2);
        dueNumbers(box(0), 0, 0, 0, 0, 0);
        dueNumbers(box(TINY), TINY, 0, 0, TINY, TINY);
        dueNumbers(box(-TINY, TINY), 0, TINY, 2 * TINY, TINY, 0);
        sentence("promise 16: how far the farther end is from that middle, rounded up");
        dueNumbers(box(0, TINY), 0, TINY, TINY, TINY, 0);
        dueNumbers(box(TINY, 2 * TINY), 2 * TINY, TINY, TINY, 2 * TINY, TINY);
        dueNumbers(box(1, up(1)), 1, Math.ulp(1.0), Math.ulp(1.0), up(1), 1);
        dueNumbers(box(-1, TINY), -0.5, up(0.5), up(1), 1, 0);
        dueNumbers(box(-TINY, 1), 0.5, up(0.5), up(1), 1, 0);
        dueNumbers(box(TINY, 1), 0.5, 0.5, 1, 1, TINY);
        sentence("promise 16: how far both ends are apart, rounded up");
        dueNumbers(box(-BIG, TINY), -BIG / 2, up(BIG / 2), FAR, BIG, 0);
        dueNumbers(box(-BIG, 0), -BIG / 2, BIG / 2, BIG, BIG, 0);
        sentence("promise 16: the greatest size of a number in it, the least one");
        dueNumbers(box(-3, 2), -0.5, 2.5, 5, 3, 0);
        dueNumbers(box(-2, 3), 0.5, 2.5, 5, 3, 0);
        dueNumbers(box(-3, -2), -2.5, 0.5, 1, 3, 2);
        dueNumbers(box(-3, 0), -1.5, 1.5, 3, 3, 0);
    }

    private static void dueTrue(Tape t, String what, int cell, int... of) {
        for (int i = 0; i < 5; i++) {
            int want = 0;
            for (int which : of) if (which == i) want = 1;
            due(what + " is " + i, t.is(cell, i), want);
        }
    }

    private static void truths() {
        sentence("promise 17: empty; entire; ill; neither of these nor unbounded; just one number; for an ill one 0, but for 2");
        Tape t = busy();
        dueTrue(t, "bounded", 0, 3);
        dueTrue(t, "entire", 1, 1);
        dueTrue(t, "empty", 2, 0);
        dueTrue(t, "ill", 3, 2);
        dueTrue(t, "one number", cell(t, 2, 2), 3, 4);
        dueTrue(t, "0", cell(t, -0.0, 0), 3, 4);
        dueTrue(t, "greatest", cell(t, BIG, BIG), 3, 4);
        dueTrue(t, "the next two floats", cell(t, 1, up(1)), 3);
        dueTrue(t, "the widest", cell(t, -BIG, BIG), 3);
        dueTrue(t, "above", cell(t, BIG, FAR));
        dueTrue(t, "below", cell(t, -FAR, -BIG));
        dueTrue(t, "nearly entire", cell(t, -FAR, BIG));
    }

    private static void dueHas(double[] x, double number, int want) {
        Tape t = new Tape();
        due(Arrays.toString(x) + " has " + number, t.has(make(t, x), bits(number)), want);
    }

    private static void members() {
        sentence("promise 18: whether a float is a number of a cell");
        dueHas(box(-1, 2), -1, 1);
        dueHas(box(-1, 2), down(-1), 0);
        dueHas(box(-1, 2), 2, 1);
        dueHas(box(-1, 2), up(2), 0);
        dueHas(box(0), 0, 1);
        dueHas(box(0), -0.0, 1);
        dueHas(box(0), TINY, 0);
        dueHas(box(0), -TINY, 0);
        dueHas(box(-FAR, -1), -BIG, 1);
        dueHas(box(1, FAR), BIG, 1);
        sentence("promise 18: 0 for infinities, NaNs, the empty one, and an ill one");
        dueHas(box(1, FAR), FAR, 0);
        dueHas(box(-FAR, 1), -FAR, 0);
        dueHas(ALL, FAR, 0);
        dueHas(ALL, -FAR, 0);
        Tape t = busy();
        for (long nan : new long[] {NAN, INF + 1, MINUS_INF + 1, -1L, Long.MAX_VALUE}) {
            for (int c = 0; c < 4; c++) due("a NaN", t.has(c, nan), 0);
        }
        for (long number : new long[] {0, Long.MIN_VALUE, bits(1), INF, MINUS_INF, MOST}) {
            due("empty", t.has(2, number), 0);
            due("ill", t.has(3, number), 0);
        }
    }

    private static void dueCompared(double[] x, double[] y, String want) {
        Tape t = new Tape();
        int a = make(t, x), b = make(t, y);
        StringBuilder got = new StringBuilder();
        for (int how = 0; how < 8; how++) got.append(t.compare(a, b, how));
        due(Arrays.toString(x) + " and " + Arrays.toString(y), got.toString(), want);
    }

    private static void comparisons() {
        sentence("promise 19: 0 if one is ill");
        Tape t = busy();
        for (int how = 0; how < 8; how++) {
            for (int c = 0; c < 4; c++) {
                due("ill and " + c + ", " + how, t.compare(3, c, how), 0);
                due(c + " and ill, " + how, t.compare(c, 3, how), 0);
            }
        }
        sentence("promise 19: the same interval, whatever their marks");
        due("marks", t.compare(0, t.mark(0, TRV), 0), 1);
        due("marks of entire", t.compare(t.mark(1, DEF), 1, 0), 1);
        sentence("promise 19: with the empty one");
        dueCompared(NONE, NONE, "11111111");
        dueCompared(NONE, box(1, 2), "01011011");
        dueCompared(box(1, 2), NONE, "00010011");
        dueCompared(NONE, ALL, "01011011");
        dueCompared(ALL, NONE, "00010011");
        sentence("promise 19: ends that are the same, or the next floats");
        dueCompared(box(1, 2), box(1, 2), "11100000");
        dueCompared(box(1), box(1), "11110000");
        dueCompared(box(1, 2), box(1, up(2)), "01100000");
        dueCompared(box(1, 2), box(down(1), 2), "01000000");
        dueCompared(box(1, 2), box(down(1), up(2)), "01001000");
        dueCompared(box(1, 2), box(up(1), up(2)), "00100100");
        dueCompared(box(1, 2), box(up(1), 2), "00100000");
        dueCompared(box(1, 2), box(1, down(2)), "00000000");
        dueCompared(box(1, 2), box(up(1), down(2)), "00000000");
        dueCompared(box(1, 2), box(2, 3), "00110100");
        dueCompared(box(1, 2), box(up(2), 3), "00110111");
        dueCompared(box(2, 3), box(1, 2), "00000000");
        dueCompared(box(2, 3), box(1, down(2)), "00000001");
        dueCompared(box(1, 2), box(2), "00110000");
        dueCompared(box(1), box(1, 2), "01110000");
        dueCompared(box(-0.0), box(0), "11110000");
        sentence("promise 19: ends that are infinite");
        dueCompared(ALL, ALL, "11101100");
        dueCompared(box(1, 2), ALL, "01001000");
        dueCompared(ALL, box(1, 2), "00000000");
        dueCompared(box(1, FAR), box(1, FAR), "11100000");
        dueCompared(box(1, FAR), box(up(1), FAR), "00100100");
        dueCompared(box(up(1), FAR), box(1, FAR), "01001000");
        dueCompared(box(-FAR, 1), box(-FAR, 1), "11100000");
        dueCompared(box(-FAR, 1), box(-FAR, up(1)), "01101100");
        dueCompared(box(-FAR, up(1)), box(-FAR, 1), "00000000");
        dueCompared(box(-FAR, 1), box(1, FAR), "00110100");
        dueCompared(box(-FAR, 1), box(up(1), FAR), "00110111");
        dueCompared(box(1, FAR), box(-FAR, down(1)), "00000001");
        dueCompared(box(1, 2), box(1, FAR), "01100000");
        dueCompared(box(1, 2), box(0, FAR), "01001000");
        dueCompared(box(1, 2), box(-FAR, 2), "01000000");
        dueCompared(box(-FAR, 1), ALL, "01101100");
        dueCompared(ALL, box(1, FAR), "00100100");
    }

    private static void writes() {
        sentence("promise 20: the out has the text, how many bytes; a shorter text leaves nothing of a longer one");
        Tape t = busy();
        int longest = cell(t, -1.1e-300, -1.1e-301);
        due("the longest", t.write(longest, 18), 57);
        due("the longest", out(t, 64), "[-1.10000000000000002e-300,-1.10000000000000001e-301]_com" + "\0".repeat(7));
        due("ill", t.write(3, 18), 5);
        due("ill", out(t, 64), "[nai]" + "\0".repeat(59));
        sentence("promise 20: clear(), and what is BAD, leave it and the tape");
        due("digits -1", t.write(0, -1), BAD);
        due("digits 19", t.write(0, 19), BAD);
        for (int no : NO_CELLS) due("cell " + no, t.write(no, 1), BAD);
        due("cell 5", t.write(t.count(), 1), BAD);
        due("the out", out(t, 64), "[nai]" + "\0".repeat(59));
        t.clear();
        due("the out after clear()", out(t, 64), "[nai]" + "\0".repeat(59));
        due("write of a cell that is gone", t.write(0, 1), BAD);
        due("the out after that", out(t, 64), "[nai]" + "\0".repeat(59));
        due("the tape", t.end(6), 9);
        dueCell(t, "the text", t.literal(), 3, 4, DEF);
    }

    private static void words() {
        sentence("promise 21: eight bytes of the out, from 8 i on, the first one lowest, 0 behind its end");
        Tape t = busy();
        t.write(3, 0);
        due("[nai]", t.word(0), 0x5D69616E5BL);
        due("behind it", t.word(1), 0);
        due("16 bytes", t.write(cell(t, -1e10, 2e10), 1), 16);
        due("first", t.word(0), 0x2C303165312D5BL | (long) '2' << 56);
        due("second", t.word(1), 0x6D6F635F5D303165L);
        due("behind 16 bytes", t.word(2), 0);
        t.write(cell(t, -1.1e-300, -1.1e-301), 18);
        due("the last byte of 57", t.word(7), 'm');
        sentence("promise 21: 0 when there are none (i below 0, or any i beyond)");
        int[] none = {-1, -2, -8, 8, 9, 64, 1 << 26, 1 << 28, 1 << 29, (1 << 29) + 1, 1 << 30, -(1 << 29), -(1 << 29) + 1,
            Integer.MAX_VALUE, Integer.MIN_VALUE, Integer.MIN_VALUE + 1};
        for (int i : none) due("word(" + i + ")", t.word(i), 0);
    }

    private static void stray(Consumer<Tape> calls, String what) {
        Tape t = new Tape();
        calls.accept(t);
        due(what, t.astray(), 0);
        due(what + ", asked again", t.astray(), 0);
        calls.accept(t);
        due(what + ", twice as many", t.astray(), 0);
        t.clear();
        due(what + ", cleared", t.astray(), 0);
    }

    private static void strays() {
        sentence("promise 22: 0, if all is as told");
        double[][] boxes = {NONE, ALL, box(0), box(TINY), box(-TINY, TINY), box(BIG), box(-BIG, BIG), box(0, FAR), box(-FAR, 0), box(0.1, 0.3),
            box(-3, 7), box(BIG, FAR)};
        for (double[] x : boxes) {
            stray(t -> {
                int a = make(t, x), b = ill(t);
                for (int operation = 0; operation < 10; operation++) t.one(operation, a);
                for (int n = -40; n <= 40; n += 5) t.power(a, n);
                t.one(0, b);
                t.mark(a, 1);
            }, "of one " + Arrays.toString(x));
            for (double[] y : boxes) {
                stray(t -> {
                    int a = make(t, x), b = make(t, y);
                    for (int operation = 0; operation < 12; operation++) t.two(operation, a, b);
                    t.fused(a, b, a);
                    t.fused(a, a, b);
                }, "of two " + Arrays.toString(x) + " " + Arrays.toString(y));
            }
        }
        String[] texts = {"", "[nai]", "[empty]", "[entire]", "[,]", "[0.1]", "[-1/3,1/3]", "[1e999]", "[-1e999,-1e-999]", "[0x1p-9999]", "[1,]", "[,1]",
            "3.5?", "3??", "3??u", "3??d", "-3?1e999", "1?1e-999", "[0]", "[0x1.fffffffffffffp1023,0x1p1024]"};
        for (String text : texts) stray(t -> read(t, text), text);
        stray(t -> {
            for (String text : texts) t.two(2, read(t, text), 0);
            for (int c = 0; c < texts.length; c++) t.one(3, c);
        }, "all texts");
    }

    public static void main(String[] args) {
        refusedCalls();
        firstRefused();
        callsThatMakeAndAsk();
        fullCells();
        newObject();
        feedAndItsLimit();
        endAndWhatItTakes();
        literals();
        newCells();
        marks();
        counted();
        cleared();
        endsOfCells();
        numbersOfCells();
        truths();
        members();
        comparisons();
        writes();
        words();
        strays();
        finish();
    }
}
