import java.lang.reflect.Field;
import java.util.List;

/**
 * Promise 22 for cells that have a wrong end. No call of the face makes one, so that this makes ends wrong behind
 * the object's back. How an object holds its state is free: one that holds it otherwise can not be tried like this.
 */
public final class AstrayTests extends Checks {
    private static Field field(Class<?> type, String name) throws ReflectiveOperationException {
        Field field = type.getDeclaredField(name);
        field.setAccessible(true);
        return field;
    }

    private static Object inside(Tape t, int cell) throws ReflectiveOperationException {
        return ((List<?>) field(IntervalTape.class, "cells").get(t.inside())).get(cell);
    }

    /** Moves an end by so many floats. */
    private static void shift(Tape t, int cell, String end, long by) throws ReflectiveOperationException {
        Object made = inside(t, cell);
        Field field = field(made.getClass(), end);
        field.setLong(made, field.getLong(made) + by);
    }

    private static boolean canBeTried() {
        Tape t = new Tape();
        try {
            int c = cell(t, 1, 1);
            shift(t, c, "low", -1);
            return t.low(c) == bits(down(1)) && t.high(c) == bits(1);
        } catch (ReflectiveOperationException | RuntimeException e) {
            return false;
        }
    }

    private static int someResult(Tape t, int kind) {
        int a = cell(t, 1, 3), b = cell(t, 3, 7), most = t.cell(MOST, MOST), least = t.cell(LEAST, LEAST);
        switch (kind) {
            case 0: return t.one(3, b);
            case 1: return t.two(3, a, b);
            case 2: return t.fused(a, b, t.cell(bits(0.1), bits(0.2)));
            case 3: return t.power(b, -5);
            case 4: return read(t, "[0.1,1/3]");
            case 5: return read(t, "3.7?1e-5");
            case 6: return t.one(9, cell(t, 2.4, 3.7));
            case 7: return t.power(cell(t, 1, 2), 40);
            case 8: return t.two(2, least, least);
            case 9: return t.one(3, cell(t, 0, 0));
            case 10: return t.two(2, cell(t, 0, 0), entire(t));
            case 11: return read(t, "[-1e-999,1e-999]");
            case 12: return t.two(0, most, cell(t, 0, 0));
            case 13: return t.one(1, cell(t, -FAR, -1));
            case 14: return t.one(4, cell(t, -3, 2));
            case 15: return t.one(3, least);
            default: return t.two(5, a, b);
        }
    }

    private static void ends() throws ReflectiveOperationException {
        // An end that is moved beyond the other one makes the cell empty, which is not looked at.
        sentence("promise 22: a low end above one of the values, or a next float above it that is above none of them");
        for (int kind = 0; kind < 17; kind++) {
            for (long by : new long[] {-1000, -2, -1, 0, 1, 2}) {
                Tape t = new Tape();
                int made = someResult(t, kind);
                shift(t, made, "low", by);
                if (t.is(made, 0) == 1) continue;
                due("kind " + kind + ", low by " + by, t.astray(), by == 0 ? 0 : 1);
            }
        }
        sentence("promise 22: a high end likewise");
        for (int kind = 0; kind < 17; kind++) {
            for (long by : new long[] {-2, -1, 0, 1, 1000}) {
                Tape t = new Tape();
                int made = someResult(t, kind);
                // The greatest float has but infinity above it.
                if (kind == 12 && by > 1) continue;
                shift(t, made, "high", by);
                if (t.is(made, 0) == 1) continue;
                due("kind " + kind + ", high by " + by, t.astray(), by == 0 ? 0 : 1);
            }
        }
    }

    private static int unbounded(Tape t, int kind) {
        int most = t.cell(MOST, MOST), minus = t.cell(MOST | Long.MIN_VALUE, MOST | Long.MIN_VALUE);
        switch (kind) {
            case 0: return t.two(0, t.two(7, minus, most), t.two(7, minus, most));
            case 1: return t.one(0, entire(t));
            case 2: return read(t, "[-1e999,1e999]");
            case 3: return read(t, "3??");
            case 4: return t.power(entire(t), -3);
            default: return t.fused(entire(t), most, most);
        }
    }

    private static void infiniteEnds() throws ReflectiveOperationException {
        sentence("promise 22: there is none above the greatest float but infinity");
        for (int kind = 0; kind < 6; kind++) {
            for (String end : new String[] {"low", "high"}) {
                Tape t = new Tape();
                int made = unbounded(t, kind);
                due("kind " + kind, t.astray(), 0);
                Tape u = new Tape();
                shift(u, unbounded(u, kind), end, end.equals("low") ? 1 : -1);
                due("kind " + kind + ", " + end + " at the greatest float", u.astray(), 1);
                due("kind " + kind + " is entire", t.is(made, 1), 1);
            }
        }
        Tape t = new Tape();
        int beyond = t.two(0, t.cell(MOST, MOST), t.cell(LEAST, LEAST));
        dueCell(t, "beyond the greatest float", beyond, BIG, FAR, DAC);
        due("its low end is right", t.astray(), 0);
        Tape u = new Tape();
        shift(u, u.two(0, u.cell(MOST, MOST), u.cell(LEAST, LEAST)), "low", -1);
        due("below the greatest float", u.astray(), 1);
    }

    private static void cellsThatAreNotLookedAt() throws ReflectiveOperationException {
        sentence("promise 22: cells of mark(), of cell() and of two() from 6 on, empty and ill ones are not looked at");
        Tape t = new Tape();
        int a = cell(t, 1, 3), around = cell(t, -1, 3), ill = ill(t), none = empty(t);
        for (int operation = 6; operation < 12; operation++) {
            shift(t, t.two(operation, a, cell(t, 2, 5)), "low", -1);
            shift(t, t.two(operation, a, around), "high", -1);
        }
        shift(t, t.mark(a, 2), "low", -1);
        shift(t, cell(t, 5, 6), "high", 1);
        t.one(0, ill);
        t.one(1, none);
        t.one(3, cell(t, -2, -1));
        t.two(3, a, cell(t, 0, 0));
        read(t, "[nai]");
        read(t, "[empty]");
        due("astray()", t.astray(), 0);
        shift(t, t.two(5, a, a), "low", -1);
        due("two(5) is looked at", t.astray(), 1);
    }

    private static void howMany() throws ReflectiveOperationException {
        sentence("promise 22: how many have an end that is not right");
        Tape t = new Tape();
        int a = cell(t, 1, 3);
        shift(t, t.two(2, a, a), "high", 5);
        due("one wrong", t.astray(), 1);
        due("asked again", t.astray(), 1);
        int both = read(t, "[0.1]");
        shift(t, both, "low", -1);
        shift(t, both, "high", 1);
        due("two wrong, one of them at both ends", t.astray(), 2);
        t.one(3, a);
        due("a right one", t.astray(), 2);
        due("clear()", t.clear(), 4);
        due("after clear()", t.astray(), 0);
        int first = read(t, "[0.1]");
        due("the first new cell", first, 0);
        shift(t, first, "low", 1);
        shift(t, t.one(3, cell(t, 2, 3)), "low", 1);
        due("wrong ones among new cells", t.astray(), 2);
        Tape u = new Tape();
        int[] made = {read(u, "[0.1]"), read(u, "3?1"), u.one(3, 1), read(u, "[1/3,]"), u.power(1, 5), read(u, "[entire]")};
        shift(u, made[0], "high", -1);
        due("wrong, with others behind it", u.astray(), 1);
    }

    public static void main(String[] args) throws ReflectiveOperationException {
        if (!canBeTried()) {
            System.out.println("NOT TRIED: the object holds its cells otherwise than this test knows");
            return;
        }
        ends();
        infiniteEnds();
        cellsThatAreNotLookedAt();
        howMany();
        finish();
    }
}
