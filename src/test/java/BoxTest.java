/** Promises 1 to 13 and 22 on boxes small enough to work out by hand, their edges, and wrong inputs. */
public final class BoxTest {
    private static SkinBox boxOf(int x, int y, int z) {
        SkinBox s = new SkinBox();
        s.box(x, y, z);
        return s;
    }

    private static void newObject() {
        SkinBox s = new SkinBox();
        int[] counts = {3, 3, 1, 9, 4, 4, 12, 1};
        for (int what = 0; what < counts.length; what++) {
            Due.due(1, "count(" + what + ")", s.count(what), counts[what]);
        }
        int[] rules = {1, 1, 1, 0, 0, 9, 0};
        for (int what = 0; what < rules.length; what++) {
            Due.due(1, "set(" + what + ", 1)", s.set(what, 1), rules[what]);
        }
        s = new SkinBox();
        for (int cell = 0; cell < 9; cell++) {
            Due.due(1, "hold(" + cell + ", 0)", s.hold(cell, 0), 0);
            Due.due(1, "price(" + cell + ", 0)", s.price(cell, 0), 0);
        }
        Due.due(1, "hold(9, 0)", s.hold(9, 0), -1);
        Due.due(1, "trace()", s.trace(), 0);
        Due.due(1, "drawn()", s.drawn(), 0);
        SkinBox other = new SkinBox();
        other.set(0, 7);
        Due.due(1, "another object's set(0, 1)", s.set(0, 1), 1);
    }

    private static void boxes() {
        SkinBox s = new SkinBox();
        for (int x = 1; x <= 4; x++) {
            for (int y = 1; y <= 4; y++) {
                for (int z = 1; z <= 4; z++) {
                    int cells = x * y * z <= 36 ? x * y * z : -1;
                    Due.due(2, "box(" + x + ", " + y + ", " + z + ")", s.box(x, y, z), cells);
                }
            }
        }
        s.box(2, 3, 4);
        s.hold(5, 1);
        s.price(5, 7);
        int[][] wrongs = {{0, 1, 1}, {1, 0, 1}, {1, 1, 0}, {5, 1, 1}, {1, 5, 1}, {1, 1, 5}, {4, 4, 3}, {3, 4, 4},
            {4, 3, 4}, {4, 4, 4}, {-1, -1, 1}, {-2, -3, 4}, {Integer.MIN_VALUE, 1, 1}, {65536, 65536, 1},
            {Integer.MAX_VALUE, 2, 2}, {1, 1, Integer.MAX_VALUE}};
        for (int[] w : wrongs) {
            Due.due(2, "box(" + w[0] + ", " + w[1] + ", " + w[2] + ")", s.box(w[0], w[1], w[2]), -1);
        }
        Due.due(2, "count(0) after BAD", s.count(0), 2);
        Due.due(2, "count(1) after BAD", s.count(1), 3);
        Due.due(2, "count(2) after BAD", s.count(2), 4);
        Due.due(2, "hold(5, 1) after BAD", s.hold(5, 1), 1);
        Due.due(2, "price(5, 7) after BAD", s.price(5, 7), 7);
        s.set(3, 4);
        s.set(6, 2);
        s.cost(2, 0, 1);
        Due.due(2, "box(2, 3, 4) anew", s.box(2, 3, 4), 24);
        Due.due(2, "count(3), all FREE anew", s.count(3), 24);
        Due.due(2, "hold(5, 0), FREE anew", s.hold(5, 0), 0);
        Due.due(2, "price(5, 0), 0 anew", s.price(5, 0), 0);
        Due.due(2, "set(3, 4) stays", s.set(3, 4), 4);
        Due.due(2, "set(6, 2) stays", s.set(6, 2), 2);
        Due.due(2, "trace() stays", s.trace(), 111);
    }

    private static void holds() {
        SkinBox s = new SkinBox();
        Due.due(3, "hold(4, 1)", s.hold(4, 1), 0);
        Due.due(3, "count(3)", s.count(3), 8);
        Due.due(3, "hold(4, 2)", s.hold(4, 2), 1);
        Due.due(3, "hold(4, 0)", s.hold(4, 0), 2);
        Due.due(3, "hold(8, 2)", s.hold(8, 2), 0);
        int[][] wrongs = {{9, 0}, {-1, 0}, {8, -1}, {8, 3}, {Integer.MIN_VALUE, 0}, {Integer.MAX_VALUE, 1},
            {8, Integer.MIN_VALUE}, {8, Integer.MAX_VALUE}};
        for (int[] w : wrongs) {
            Due.due(3, "hold(" + w[0] + ", " + w[1] + ")", s.hold(w[0], w[1]), -1);
        }
        Due.due(3, "hold(8, 2) after BAD", s.hold(8, 2), 2);
        s.box(4, 3, 3);
        Due.due(3, "hold(35, 1)", s.hold(35, 1), 0);
        Due.due(3, "hold(36, 1)", s.hold(36, 1), -1);
        Due.due(3, "right(0)", s.right(0), 0);
        Due.due(3, "right(1 << 35)", s.right(1L << 35), 1);
    }

    private static void prices() {
        SkinBox s = new SkinBox();
        Due.due(4, "price(0, -20)", s.price(0, -20), 0);
        Due.due(4, "price(0, 20)", s.price(0, 20), -20);
        Due.due(4, "price(0, -1)", s.price(0, -1), 20);
        int[][] wrongs = {{0, 21}, {0, -21}, {-1, 0}, {9, 0}, {0, Integer.MAX_VALUE}, {0, Integer.MIN_VALUE},
            {Integer.MIN_VALUE, 0}, {Integer.MAX_VALUE, 0}};
        for (int[] w : wrongs) {
            Due.due(4, "price(" + w[0] + ", " + w[1] + ")", s.price(w[0], w[1]), -1000000);
        }
        Due.due(4, "price(0, 3) after NO", s.price(0, 3), -1);
        Due.due(4, "all(1)", s.all(1), 5);
        Due.due(4, "skin(1)", s.skin(1), 2);
    }

    private static void sets() {
        SkinBox s = new SkinBox();
        int[] low = {0, 0, 0, 0, 0, 1, 0};
        int[] high = {9, 9, 9, 9, 9, 9, 2};
        for (int what = 0; what < 7; what++) {
            s.set(what, high[what]);
            for (int v = low[what]; v <= high[what]; v++) {
                int was = v == low[what] ? high[what] : v - 1;
                Due.due(5, "set(" + what + ", " + v + ")", s.set(what, v), was);
            }
            int[] wrongs = {low[what] - 1, high[what] + 1, Integer.MIN_VALUE, Integer.MAX_VALUE};
            for (int v : wrongs) {
                Due.due(5, "set(" + what + ", " + v + ")", s.set(what, v), -1);
            }
            Due.due(5, "set(" + what + ", ..) after BAD", s.set(what, high[what]), high[what]);
        }
        int[] nothing = {-1, 7, Integer.MIN_VALUE, Integer.MAX_VALUE};
        for (int what : nothing) {
            Due.due(5, "set(" + what + ", 1)", s.set(what, 1), -1);
        }
    }

    private static void costs() {
        SkinBox s = boxOf(4, 3, 3);
        s.set(0, 2);
        s.set(1, 3);
        s.set(2, 5);
        s.set(4, 4);
        s.set(5, 6);
        int[][] seams = {
            {0, 1, 2, 2, 2}, {1, 2, 2, 6, 6}, {2, 3, 2, 2, 2}, {17, 18, 2, 6, 6},
            {0, 4, 3, 3, 3}, {4, 8, 3, 7, 6}, {5, 9, 3, 7, 6}, {1, 5, 3, 3, 3},
            {0, 12, 5, 5, 5}, {12, 24, 5, 9, 6}, {23, 35, 5, 9, 6}, {13, 1, 5, 5, 5}, {34, 35, 2, 2, 2}};
        long trace = 0;
        long[] marks = {1, 11, 111};
        for (int[] m : seams) {
            for (int kind = 0; kind < 3; kind++) {
                String call = "cost(" + kind + ", " + m[0] + ", " + m[1] + ")";
                Due.due(6, call, s.cost(kind, m[0], m[1]), m[2 + kind]);
                Due.due(6, call + " the other way", s.cost(kind, m[1], m[0]), m[2 + kind]);
                trace += 2 * marks[kind];
                Due.due(22, "trace() after " + call, s.trace(), trace);
            }
        }
        int[][] wrongs = {{-1, 0, 1}, {3, 0, 1}, {0, 0, 0}, {0, 3, 4}, {0, 0, 2}, {0, 0, 5}, {0, 8, 12}, {0, 0, 24},
            {0, -1, 0}, {0, 0, -1}, {0, 35, 36}, {0, 36, 35}, {0, 24, 36}, {Integer.MAX_VALUE, 0, 1},
            {Integer.MIN_VALUE, 0, 1}, {0, Integer.MIN_VALUE, Integer.MAX_VALUE}, {2, Integer.MAX_VALUE, 0}};
        for (int[] w : wrongs) {
            Due.due(6, "cost(" + w[0] + ", " + w[1] + ", " + w[2] + ")", s.cost(w[0], w[1], w[2]), -1);
        }
        Due.due(22, "trace() after BAD", s.trace(), trace);
        s.set(6, 2);
        Due.due(6, "cost(0, 4, 8) by its own KIND", s.cost(0, 4, 8), 3);
        s.set(5, 1);
        Due.due(6, "cost(2, 12, 24), SOFT 1", s.cost(2, 12, 24), 1);
        s.box(1, 4, 1);
        Due.due(6, "cost(1, 1, 2), a row along y", s.cost(1, 1, 2), 7);
        s.box(1, 1, 4);
        Due.due(6, "cost(1, 2, 1), a row along z", s.cost(1, 2, 1), 9);
        Due.due(6, "cost(1, 4, 3), no such CELL", s.cost(1, 4, 3), -1);
    }

    private static void traces() {
        SkinBox s = new SkinBox();
        s.set(6, 2);
        s.hold(0, 1);
        s.hold(8, 2);
        s.least();
        s.film(0);
        s.room(3, 1);
        s.many();
        s.skin(3);
        s.all(3);
        Due.due(22, "trace(), cost() not called", s.trace(), 0);
        for (int i = 0; i < 400; i++) {
            s.cost(2, 0, 1);
        }
        Due.due(22, "trace()", s.trace(), 44400);
        s.box(1, 1, 1);
        s.net(2, 2);
        Due.due(22, "trace(), new BOX and NET", s.trace(), 44400);
        Due.due(22, "trace() again", s.trace(), 44400);
    }

    private static void skins() {
        SkinBox s = new SkinBox();
        Due.due(7, "skin(0)", s.skin(0), 0);
        Due.due(7, "skin(16)", s.skin(16), 4);
        Due.due(7, "skin(511)", s.skin(511), 0);
        Due.due(7, "skin(1 + 16), two apart", s.skin(17), 6);
        Due.due(7, "skin(1 + 2), two together", s.skin(3), 3);
        s.set(3, 3);
        Due.due(7, "skin(1), four WALLS", s.skin(1), 14);
        Due.due(7, "skin(16), two WALLS", s.skin(16), 10);
        Due.due(7, "skin(2), three WALLS", s.skin(2), 12);
        s.set(4, 5);
        Due.due(7, "skin(16), PLAIN has no GRAIN", s.skin(16), 10);
        s.set(6, 1);
        Due.due(7, "skin(16), GRAINED", s.skin(16), 20);
        s.set(6, 2);
        s.set(5, 4);
        Due.due(7, "skin(16), SOFTENED", s.skin(16), 16);
        s.price(4, 9);
        Due.due(7, "skin(16), no PRICES", s.skin(16), 16);
        s.hold(4, 2);
        Due.due(7, "skin(16), not RIGHT", s.skin(16), 16);
        wrongSets(s, 9);
        s.box(4, 3, 3);
        s.set(6, 0);
        Due.due(7, "skin of all 36, 66 WALLS", s.skin((1L << 36) - 1), 66 * 3);
        wrongSets(s, 36);
        s.box(1, 1, 1);
        Due.due(7, "skin(1), six WALLS", s.skin(1), 18);
        wrongSets(s, 1);
    }

    private static void wrongSets(SkinBox s, int cells) {
        long[] wrongs = {1L << cells, -1, Long.MIN_VALUE, Long.MAX_VALUE, 1L << 62, 1L | 1L << cells, -(1L << cells)};
        for (long w : wrongs) {
            Due.due(7, "skin(" + w + ")", s.skin(w), -1);
            Due.due(8, "all(" + w + ")", s.all(w), -1000000);
            Due.due(9, "right(" + w + ")", s.right(w), -1);
        }
    }

    private static void alls() {
        SkinBox s = new SkinBox();
        s.price(0, -5);
        s.price(1, 7);
        s.price(8, 20);
        s.set(3, 2);
        Due.due(8, "all(0)", s.all(0), 0);
        Due.due(8, "all(1)", s.all(1), 2 + 8 - 5);
        Due.due(8, "all(3)", s.all(3), 3 + 14 + 2);
        Due.due(8, "all(511)", s.all(511), 60 + 22);
        s.hold(0, 2);
        Due.due(8, "all(1), not RIGHT", s.all(1), 5);
        s.box(4, 3, 3);
        s.set(3, 0);
        for (int cell = 0; cell < 36; cell++) {
            s.price(cell, -20);
        }
        Due.due(8, "all of 36", s.all((1L << 36) - 1), -720);
    }

    private static void rights() {
        SkinBox s = new SkinBox();
        Due.due(9, "right(0), all FREE", s.right(0), 1);
        Due.due(9, "right(511), all FREE", s.right(511), 1);
        s.hold(0, 1);
        s.hold(8, 2);
        Due.due(9, "right(0), without an IN", s.right(0), 0);
        Due.due(9, "right(1)", s.right(1), 1);
        Due.due(9, "right(255)", s.right(255), 1);
        Due.due(9, "right(257), with an OUT", s.right(257), 0);
        Due.due(9, "right(256)", s.right(256), 0);
    }

    private static void leastAndFilm() {
        SkinBox s = boxOf(4, 1, 1);
        Due.due(10, "least(), all FREE", s.least(), 0);
        Due.due(11, "film(0), all FREE", s.film(0), 0);
        Due.due(11, "film(1), all FREE", s.film(1), 15);
        s.hold(0, 1);
        s.hold(3, 2);
        Due.due(10, "least(), a row", s.least(), 1);
        Due.due(11, "film(0), a row", s.film(0), 1);
        Due.due(11, "film(1), a row", s.film(1), 7);
        s.set(4, 1);
        Due.due(10, "least(), GRAIN without GRAINED", s.least(), 1);
        Due.due(11, "film(1), GRAIN without GRAINED", s.film(1), 7);
        s.set(6, 1);
        s.set(0, 0);
        Due.due(10, "least(), no WEIGHT", s.least(), 0);
        Due.due(11, "film(0), no WEIGHT", s.film(0), 1);
        Due.due(11, "film(1), no WEIGHT", s.film(1), 7);
        s.set(0, 9);
        s.set(6, 2);
        s.set(5, 5);
        Due.due(10, "least(), SOFT", s.least(), 5);
        s.price(1, 3);
        s.price(2, -4);
        Due.due(10, "least(), PRICES", s.least(), 4);
        Due.due(11, "film(0), PRICES", s.film(0), 7);
        s.price(0, 20);
        s.price(3, -20);
        Due.due(10, "least(), PRICES of HELD ones", s.least(), 24);
        int[] wrongs = {-1, 2, Integer.MIN_VALUE, Integer.MAX_VALUE};
        for (int w : wrongs) {
            Due.due(11, "film(" + w + ")", s.film(w), -1);
        }
        s.box(1, 1, 1);
        s.set(3, 9);
        s.hold(0, 1);
        Due.due(10, "least(), IN within WALLS", s.least(), 54);
        s.price(0, -20);
        Due.due(10, "least(), IN with a PRICE", s.least(), 34);
        s.hold(0, 2);
        Due.due(10, "least(), OUT with a PRICE", s.least(), 0);
        s.hold(0, 0);
        Due.due(10, "least(), FREE", s.least(), 0);
    }

    private static void allHeld() {
        SkinBox s = boxOf(4, 3, 3);
        for (int cell = 0; cell < 36; cell++) {
            s.hold(cell, 1);
        }
        Due.due(10, "least(), all IN", s.least(), 0);
        Due.due(11, "film(0), all IN", s.film(0), (1L << 36) - 1);
        Due.due(12, "room(60, 0), all IN", s.room(60, 0), 36);
        Due.due(13, "many(), all IN", s.many(), 1);
        for (int cell = 0; cell < 36; cell++) {
            s.hold(cell, 2);
        }
        Due.due(10, "least(), all OUT", s.least(), 0);
        Due.due(11, "film(1), all OUT", s.film(1), 0);
        Due.due(12, "room(-60, 1), all OUT", s.room(-60, 1), 0);
        Due.due(13, "many(), all OUT", s.many(), 1);
    }

    private static void rooms() {
        SkinBox s = new SkinBox();
        Due.due(12, "room(0, 0)", s.room(0, 0), 0);
        Due.due(12, "room(0, 1)", s.room(0, 1), 9);
        Due.due(12, "room(1, 1)", s.room(1, 1), 0);
        Due.due(12, "room(-1, 0)", s.room(-1, 0), 9);
        s.set(3, 3);
        Due.due(12, "room(-10, 0), ALL is 0", s.room(-10, 0), 0);
        Due.due(12, "room(-10, 1), ALL is 0", s.room(-10, 1), 9);
        Due.due(12, "room(-11, 0)", s.room(-11, 0), 9);
        Due.due(12, "room(-9, 1)", s.room(-9, 1), 0);
        Due.due(10, "least() stays after room()", s.least(), 0);
        Due.due(11, "film(1) stays after room()", s.film(1), 0);
        s.price(4, -20);
        s.room(-60, 1);
        Due.due(10, "least(), without room()'s price", s.least(), -10);
        Due.due(4, "price(4, -20) stays after room()", s.price(4, -20), -20);
        Due.due(12, "room(60, 0)", s.room(60, 0), 0);
        Due.due(12, "room(-60, 1)", s.room(-60, 1), 9);
        int[][] wrongs = {{61, 0}, {-61, 0}, {0, -1}, {0, 2}, {Integer.MIN_VALUE, 1}, {Integer.MAX_VALUE, 0},
            {0, Integer.MAX_VALUE}, {0, Integer.MIN_VALUE}};
        for (int[] w : wrongs) {
            Due.due(12, "room(" + w[0] + ", " + w[1] + ")", s.room(w[0], w[1]), -1);
        }
    }

    private static void manies() {
        SkinBox s = boxOf(3, 4, 1);
        Due.due(13, "many(), 12 FREE", s.many(), 2);
        for (int way = 0; way < 3; way++) {
            s.set(way, 0);
        }
        Due.due(13, "many(), 12 FREE without COST", s.many(), 4096);
        s.price(5, 1);
        Due.due(13, "many(), one PRICE", s.many(), 2048);
        s.room(-1, 0);
        Due.due(13, "many() after room()", s.many(), 2048);
        s.box(4, 4, 1);
        Due.due(13, "many(), 16 FREE", s.many(), -2);
        for (int cell = 0; cell < 3; cell++) {
            s.hold(cell, 1);
        }
        Due.due(13, "many(), 13 FREE", s.many(), -2);
        s.hold(3, 2);
        Due.due(13, "many(), 12 FREE of 16", s.many(), 4096);
        s.box(4, 1, 1);
        s.set(0, 1);
        s.hold(0, 1);
        s.hold(3, 2);
        Due.due(13, "many(), a row", s.many(), 3);
        s.box(1, 1, 1);
        Due.due(13, "many(), one CELL", s.many(), 2);
    }

    public static void main(String[] args) {
        newObject();
        boxes();
        holds();
        prices();
        sets();
        costs();
        traces();
        skins();
        alls();
        rights();
        leastAndFilm();
        allHeld();
        rooms();
        manies();
        Due.end("the box answers as due");
    }
}
