import java.util.ArrayList;
import java.util.Arrays;
import java.util.List;

/**
 * "Refused, and nothing changes": each number of each call at the first on either side of what is taken,
 * and far away, in a new object, in a full one and in the smallest; after each one all that an object
 * can be asked is as it is in a twin that was not asked.
 */
public final class RefusedTest {
    private static final int BAD = -1;
    private static final int STATE = -2;
    private static final int NO = -1000000;
    private static final int LOWEST_INT = Integer.MIN_VALUE;
    private static final int GREATEST_INT = Integer.MAX_VALUE;

    /** An object in some state, and how it lies, so that the first numbers beyond it are known. */
    private interface Maker {
        SkinBox make();
    }

    private record Refusal(Call call, long due) {
    }

    private static SkinBox full() {
        SkinBox s = new SkinBox();
        s.box(4, 3, 3);
        int[] rules = {3, 2, 5, 1, 4, 6, 2};
        for (int what = 0; what < rules.length; what++) {
            s.set(what, rules[what]);
        }
        for (int cell = 0; cell < 36; cell++) {
            s.price(cell, cell * 7 % 41 - 20);
            if (cell % 5 == 0) {
                s.hold(cell, 1 + cell % 2);
            }
        }
        s.cost(2, 0, 1);
        s.net(8, 8);
        for (int i = 0; i < 64; i += 2) {
            s.lift(i % 8, i / 8, i * 37 % 201 - 100);
        }
        s.pin(0, 0, false);
        s.pin(7, 7, false);
        s.pin(3, 4, true);
        return s;
    }

    private static SkinBox smallest() {
        SkinBox s = new SkinBox();
        s.box(1, 1, 1);
        s.hold(0, 1);
        s.price(0, -7);
        s.set(3, 2);
        s.net(2, 2);
        s.lift(1, 1, 9);
        s.pin(1, 1, false);
        return s;
    }

    /** All that an object can be asked. It asks by changing, so the object is used up. */
    private static long[] everything(SkinBox s) {
        List<Long> all = new ArrayList<>();
        for (int what = 0; what < 8; what++) {
            all.add((long) s.count(what));
        }
        all.addAll(List.of(s.trace(), s.least(), s.film(0), s.film(1), (long) s.many(), (long) s.room(-9, 0),
                (long) s.room(2, 1), (long) s.drawn(), (long) s.slack()));
        int cells = s.count(0) * s.count(1) * s.count(2);
        for (int cell = 0; cell < 36; cell++) {
            all.add((long) s.hold(cell, 0));
            all.add((long) s.price(cell, 0));
            all.add(s.skin(1L << cell));
        }
        all.add((long) cells);
        for (int what = 0; what < 7; what++) {
            all.add((long) s.set(what, 1));
        }
        for (int i = 0; i < 64; i++) {
            all.add((long) s.height(i % 8, i / 8));
            all.add((long) s.pin(i % 8, i / 8, true));
        }
        return all.stream().mapToLong(Long::longValue).toArray();
    }

    private static void add(List<Refusal> list, long due, String name, int[]... numbers) {
        for (int[] n : numbers) {
            Call call = n.length == 1 ? Call.of(name, n[0]) : n.length == 2 ? Call.of(name, n[0], n[1])
                    : Call.of(name, n[0], n[1], n[2]);
            list.add(new Refusal(call, due));
        }
    }

    private static int[] n(int... numbers) {
        return numbers;
    }

    private static void refusedByBox(List<Refusal> list) {
        add(list, BAD, "box", n(0, 1, 1), n(1, 0, 1), n(1, 1, 0), n(5, 1, 1), n(1, 5, 1), n(1, 1, 5),
                n(4, 4, 3), n(4, 3, 4), n(3, 4, 4), n(4, 4, 4), n(6, 6, 1), n(9, 4, 1), n(36, 1, 1), n(-1, -1, 1),
                n(-3, -3, 1), n(1, -2, -2), n(0, 0, 0), n(LOWEST_INT, 1, 1), n(1, LOWEST_INT, 2),
                n(2, 2, GREATEST_INT), n(65536, 65536, 1), n(1 << 30, 4, 1), n(1 << 16, 1 << 16, 3));
        add(list, BAD, "set", n(-1, 1), n(7, 1), n(LOWEST_INT, 1), n(GREATEST_INT, 1), n(-1, -1), n(7, 10));
        for (int what = 0; what < 7; what++) {
            add(list, BAD, "set", n(what, what == 5 ? 0 : -1), n(what, what == 6 ? 3 : 10),
                    n(what, LOWEST_INT), n(what, GREATEST_INT));
        }
    }

    private static void refusedByCells(List<Refusal> list, int cells, int x) {
        int last = cells - 1;
        add(list, BAD, "hold", n(-1, 1), n(cells, 1), n(LOWEST_INT, 1), n(GREATEST_INT, 1), n(0, -1), n(0, 3),
                n(last, -1), n(last, 3), n(last, LOWEST_INT), n(last, GREATEST_INT), n(-1, 3), n(cells, -1));
        add(list, NO, "price", n(-1, 3), n(cells, 3), n(LOWEST_INT, 3), n(GREATEST_INT, 3), n(0, -21), n(0, 21),
                n(last, -21), n(last, 21), n(last, LOWEST_INT), n(last, GREATEST_INT), n(-1, 21), n(cells, -21));
        add(list, BAD, "cost", n(-1, 0, 1), n(3, 0, 1), n(LOWEST_INT, 0, 1), n(GREATEST_INT, 0, 1), n(0, 0, 0),
                n(1, last, last), n(2, -1, 0), n(2, 0, -1), n(2, last, cells), n(2, cells, last), n(0, -2, -1),
                n(0, cells, cells + 1), n(1, LOWEST_INT, 0), n(1, 0, LOWEST_INT), n(1, GREATEST_INT, last),
                n(1, last, GREATEST_INT), n(2, GREATEST_INT, LOWEST_INT), n(0, 0, 2 * x), n(2, x - 1, x),
                n(2, x, x - 1), n(0, 0, x + 1), n(0, x + 1, 0));
        long[] noSets = {1L << cells, 1L << cells | 1, -1, Long.MIN_VALUE, Long.MAX_VALUE, 1L << 62,
            Long.MIN_VALUE | 1, -(1L << cells), 1L << 36, 1L << 40};
        for (long set : noSets) {
            list.add(new Refusal(Call.ofSet("skin", set), -1));
            list.add(new Refusal(Call.ofSet("all", set), NO));
            list.add(new Refusal(Call.ofSet("right", set), BAD));
        }
        add(list, -1, "film", n(-1), n(2), n(LOWEST_INT), n(GREATEST_INT));
        add(list, BAD, "room", n(-61, 0), n(61, 0), n(-61, 1), n(61, 1), n(LOWEST_INT, 0), n(GREATEST_INT, 1),
                n(0, -1), n(0, 2), n(0, LOWEST_INT), n(0, GREATEST_INT), n(61, 2));
    }

    private static void refusedByNet(List<Refusal> list, int w, int h) {
        add(list, BAD, "net", n(1, 4), n(9, 4), n(4, 1), n(4, 9), n(1, 1), n(9, 9), n(0, 4), n(-4, -4),
                n(LOWEST_INT, 4), n(4, LOWEST_INT), n(GREATEST_INT, 4), n(4, GREATEST_INT));
        int[][] noPoints = {n(-1, 0), n(0, -1), n(w, 0), n(0, h), n(w, h - 1), n(w - 1, h), n(-1, h - 1), n(w - 1, -1),
            n(-1, -1), n(w, h), n(LOWEST_INT, 0), n(0, LOWEST_INT), n(GREATEST_INT, 0), n(0, GREATEST_INT)};
        for (int[] p : noPoints) {
            add(list, NO, "lift", n(p[0], p[1], 5));
            add(list, NO, "height", p);
            list.add(new Refusal(Call.ofPin(p[0], p[1], true), BAD));
            list.add(new Refusal(Call.ofPin(p[0], p[1], false), BAD));
        }
        add(list, NO, "lift", n(0, 0, -101), n(0, 0, 101), n(w - 1, h - 1, -101), n(w - 1, h - 1, 101),
                n(0, 0, LOWEST_INT), n(0, 0, GREATEST_INT), n(0, 0, NO), n(w, 0, 101));
        add(list, BAD, "rounds", n(0), n(51), n(-1), n(LOWEST_INT), n(GREATEST_INT));
        add(list, BAD, "count", n(-1), n(8), n(LOWEST_INT), n(GREATEST_INT));
    }

    private static void checkAll(String state, Maker maker) {
        SkinBox asked = maker.make();
        int cells = asked.count(0) * asked.count(1) * asked.count(2);
        List<Refusal> list = new ArrayList<>();
        refusedByBox(list);
        refusedByCells(list, cells, asked.count(0));
        refusedByNet(list, asked.count(4), asked.count(5));
        if (asked.count(3) > 12) {
            list.add(new Refusal(Call.of("many"), STATE));
        }
        long[] untouched = everything(maker.make());
        for (Refusal r : list) {
            SkinBox s = maker.make();
            Call call = r.call();
            Due.due(call.promise(), call + " in " + state, call.ask(s), r.due());
            boolean same = Arrays.equals(everything(s), untouched);
            Due.due(call.promise(), call + " in " + state + " refused: nothing changes", same ? 1 : 0, 1);
        }
    }

    public static void main(String[] args) {
        checkAll("a new object", SkinBox::new);
        checkAll("a full one", RefusedTest::full);
        checkAll("the smallest", RefusedTest::smallest);
        Due.end("what is refused changes nothing");
    }
}
