/**
 * One test for each sentence of the document that tells a bound, what stands at first, or a case at an edge:
 * the least and the greatest number are taken, the first on either side is refused, and what was taken is
 * what is found again. (RefusedTest shows that refused calls change nothing.)
 */
public final class EdgesTest {
    private static final int NO = -1000000;

    private static void due(int promise, String what, long got, long want) {
        Due.due(promise, what, got, want);
    }

    private static SkinBox boxOf(int x, int y, int z) {
        SkinBox s = new SkinBox();
        due(2, "box(" + x + ", " + y + ", " + z + ")", s.box(x, y, z), x * y * z);
        return s;
    }

    private static SkinBox netOf(int w, int h) {
        SkinBox s = new SkinBox();
        due(14, "net(" + w + ", " + h + ")", s.net(w, h), (w - 2) * (h - 2));
        return s;
    }

    private static void setAll(SkinBox s, int... rules) {
        for (int what = 0; what < rules.length; what++) {
            s.set(what, rules[what]);
        }
    }

    // "THE BOX has X, Y, Z CELLS along its sides (1 .. 4 each, 36 at most in all; 3, 3, 1 at first)"

    private static void sidesAreOneToFour() {
        for (int way = 0; way < 3; way++) {
            int[] taken = {1, 2, 3, 4};
            for (int v : taken) {
                int[] d = {2, 2, 2};
                d[way] = v;
                SkinBox s = boxOf(d[0], d[1], d[2]);
                for (int what = 0; what < 3; what++) {
                    due(21, "count(" + what + ") with side " + way + " of " + v, s.count(what), d[what]);
                }
                due(21, "count(3) with side " + way + " of " + v, s.count(3), 4 * v);
                due(3, "the last CELL", s.hold(4 * v - 1, 1), 0);
                due(3, "the one behind it", s.hold(4 * v, 1), -1);
            }
            int[] refused = {0, 5, -1, -4};
            for (int v : refused) {
                int[] d = {2, 2, 2};
                d[way] = v;
                due(2, "box with side " + way + " of " + v, new SkinBox().box(d[0], d[1], d[2]), -1);
            }
        }
    }

    private static void cellsAreThirtySixAtMost() {
        int taken = 0;
        for (int x = 1; x <= 4; x++) {
            for (int y = 1; y <= 4; y++) {
                for (int z = 1; z <= 4; z++) {
                    int n = x * y * z;
                    due(2, "box(" + x + ", " + y + ", " + z + ")", new SkinBox().box(x, y, z), n <= 36 ? n : -1);
                    taken += n <= 36 ? 1 : 0;
                }
            }
        }
        due(2, "boxes taken: all but 4 x 4 x 4 and three of 48", taken, 60);
    }

    private static void boxAtFirst() {
        SkinBox s = new SkinBox();
        due(1, "count(0)", s.count(0), 3);
        due(1, "count(1)", s.count(1), 3);
        due(1, "count(2)", s.count(2), 1);
        due(1, "count(3), all FREE", s.count(3), 9);
        for (int cell = 0; cell < 9; cell++) {
            due(1, "hold(" + cell + ", 1)", s.hold(cell, 1), 0);
            due(1, "price(" + cell + ", 1)", s.price(cell, 1), 0);
        }
        due(1, "hold(9, 0)", s.hold(9, 0), -1);
        due(1, "price(9, 0)", s.price(9, 0), NO);
        due(1, "trace()", s.trace(), 0);
    }

    // "numbered x + X (y + Y z)"

    private static void cellsAreNumbered() {
        int[] d = {4, 3, 3};
        for (int one = 0; one < 36; one++) {
            SkinBox s = boxOf(d[0], d[1], d[2]);
            setAll(s, 2, 3, 5);
            for (int other = 0; other < 36; other++) {
                int[] apart = {Math.abs(one % 4 - other % 4), Math.abs(one / 4 % 3 - other / 4 % 3),
                    Math.abs(one / 12 - other / 12)};
                int want = -1;
                if (apart[0] + apart[1] + apart[2] == 1) {
                    want = 2 * apart[0] + 3 * apart[1] + 5 * apart[2];
                }
                due(6, "cost(0, " + one + ", " + other + ")", s.cost(0, one, other), want);
            }
        }
    }

    private static void rowsDoNotWrapAround() {
        SkinBox s = boxOf(2, 2, 2);
        due(6, "cost(0, 1, 2), the end of a row and the next one's start", s.cost(0, 1, 2), -1);
        due(6, "cost(0, 3, 4), the end of a layer and the next one's start", s.cost(0, 3, 4), -1);
        due(6, "cost(0, 2, 4)", s.cost(0, 2, 4), -1);
        due(6, "cost(0, 0, 7)", s.cost(0, 0, 7), -1);
        due(6, "cost(0, 0, 6)", s.cost(0, 0, 6), -1);
        due(6, "cost(0, 0, 1)", s.cost(0, 0, 1), 1);
        due(6, "cost(0, 0, 2)", s.cost(0, 0, 2), 1);
        due(6, "cost(0, 0, 4)", s.cost(0, 0, 4), 1);
        due(6, "cost(0, 7, 3)", s.cost(0, 7, 3), 1);
        due(22, "trace(): four asked", s.trace(), 4);
        s = boxOf(4, 1, 1);
        due(6, "cost(0, 0, 3), the two ends of a row", s.cost(0, 0, 3), -1);
        due(6, "cost(0, 3, 0)", s.cost(0, 3, 0), -1);
        due(6, "cost(0, 2, 3)", s.cost(0, 2, 3), 1);
        due(6, "cost(0, 3, 4)", s.cost(0, 3, 4), -1);
        due(6, "cost(0, 0, -1)", s.cost(0, 0, -1), -1);
        s = boxOf(1, 1, 1);
        due(6, "cost(0, 0, 0), one CELL has no SEAM", s.cost(0, 0, 0), -1);
        due(6, "cost(0, 0, 1)", s.cost(0, 0, 1), -1);
    }

    // "Each is HELD: FREE (0, at first), IN (1), OUT (2); has a PRICE (-20 .. 20; 0 at first)."

    private static void heldIsZeroToTwo() {
        SkinBox s = new SkinBox();
        int[] cells = {0, 8};
        for (int cell : cells) {
            int was = 0;
            int[] hows = {2, 1, 0, 1, 2};
            for (int how : hows) {
                due(3, "hold(" + cell + ", " + how + ")", s.hold(cell, how), was);
                was = how;
            }
            due(3, "hold(" + cell + ", -1)", s.hold(cell, -1), -1);
            due(3, "hold(" + cell + ", 3)", s.hold(cell, 3), -1);
            due(3, "hold(" + cell + ", 0)", s.hold(cell, 0), 2);
        }
        due(3, "hold(-1, 0)", s.hold(-1, 0), -1);
        due(3, "hold(9, 0)", s.hold(9, 0), -1);
        due(21, "count(3), all FREE again", s.count(3), 9);
    }

    private static void pricesAreMinusTwentyToTwenty() {
        SkinBox s = boxOf(4, 3, 3);
        int[] cells = {0, 35};
        for (int cell : cells) {
            due(4, "price(" + cell + ", -20)", s.price(cell, -20), 0);
            due(4, "price(" + cell + ", -21)", s.price(cell, -21), NO);
            due(4, "price(" + cell + ", 20)", s.price(cell, 20), -20);
            due(4, "price(" + cell + ", 21)", s.price(cell, 21), NO);
            due(4, "price(" + cell + ", -1)", s.price(cell, -1), 20);
            due(4, "price(" + cell + ", 20), what it was may look like BAD", s.price(cell, 20), -1);
        }
        due(4, "price(-1, 0)", s.price(-1, 0), NO);
        due(4, "price(36, 0)", s.price(36, 0), NO);
    }

    // "A SET of CELLS is a number: bit i tells CELL i."

    private static void setsEndWithTheLastCell() {
        int[][] sizes = {{1, 1, 1}, {2, 1, 1}, {3, 3, 1}, {2, 4, 4}, {4, 4, 2}, {4, 3, 3}};
        for (int[] d : sizes) {
            SkinBox s = boxOf(d[0], d[1], d[2]);
            int n = d[0] * d[1] * d[2];
            long every = (1L << n) - 1;
            s.price(n - 1, 13);
            s.hold(n - 1, 1);
            due(7, "skin(0), the empty SET", s.skin(0), 0);
            due(8, "all(0), the empty SET", s.all(0), 0);
            due(9, "right(0), the last CELL is IN", s.right(0), 0);
            due(7, "skin of all CELLS", s.skin(every), 0);
            due(8, "all of all CELLS", s.all(every), 13);
            due(9, "right of all CELLS", s.right(every), 1);
            due(9, "right of the last CELL", s.right(1L << n - 1), 1);
            due(9, "right of all but the last", s.right(every >> 1), 0);
            long[] refused = {every + 1, every + 2, -1, Long.MIN_VALUE, Long.MIN_VALUE | every, Long.MAX_VALUE};
            for (long set : refused) {
                due(7, "skin(" + set + ")", s.skin(set), -1);
                due(8, "all(" + set + ")", s.all(set), NO);
                due(9, "right(" + set + ")", s.right(set), -1);
            }
        }
    }

    // "WEIGHTS of ways x, y, z are 0 .. 9 (1 at first), WALLS 0 .. 9 (0 at first), GRAIN 0 .. 9 (0 at first),
    // SOFT 1 .. 9 (9 at first). NORMS are of KINDS over one another: 0 PLAIN (at first), 1 .., 2 .."

    private static void rulesHaveBounds() {
        int[] first = {1, 1, 1, 0, 0, 9, 0};
        int[] low = {0, 0, 0, 0, 0, 1, 0};
        int[] high = {9, 9, 9, 9, 9, 9, 2};
        for (int what = 0; what < 7; what++) {
            SkinBox s = new SkinBox();
            due(5, "set(" + what + ", the least)", s.set(what, low[what]), first[what]);
            due(5, "set(" + what + ", less)", s.set(what, low[what] - 1), -1);
            due(5, "set(" + what + ", the greatest)", s.set(what, high[what]), low[what]);
            due(5, "set(" + what + ", more)", s.set(what, high[what] + 1), -1);
            for (int other = 0; other < 7; other++) {
                int stands = other == what ? high[what] : first[other];
                due(5, "set(" + other + ", 1) after those of " + what, s.set(other, 1), stands);
            }
        }
        due(5, "set(-1, 1)", new SkinBox().set(-1, 1), -1);
        due(5, "set(7, 1)", new SkinBox().set(7, 1), -1);
    }

    // "PLAIN the WEIGHT of the way (1). GRAINED up, and GRAIN where p is odd (10). SOFTENED up, SOFT at most (100)."

    private static void grainIsWherePlacesAreOdd() {
        int[][] boxes = {{4, 1, 1}, {1, 4, 1}, {1, 1, 4}};
        for (int way = 0; way < 3; way++) {
            SkinBox s = boxOf(boxes[way][0], boxes[way][1], boxes[way][2]);
            int[] weights = {1, 1, 1};
            weights[way] = 2;
            setAll(s, weights[0], weights[1], weights[2], 9, 5);
            int[] grained = {2, 7, 2};
            for (int p = 0; p < 3; p++) {
                String seam = p + " of way " + way;
                due(6, "PLAIN SEAM " + seam, s.cost(0, p, p + 1), 2);
                due(6, "GRAINED SEAM " + seam, s.cost(1, p, p + 1), grained[p]);
                due(6, "GRAINED SEAM " + seam + ", the greater one first", s.cost(1, p + 1, p), grained[p]);
                due(6, "SOFTENED SEAM " + seam, s.cost(2, p + 1, p), grained[p]);
            }
            due(22, "trace()", s.trace(), 3 * (1 + 11 + 11 + 111));
        }
    }

    private static void grainGoesByThePlaceAlongTheWay() {
        SkinBox s = boxOf(3, 3, 3);
        setAll(s, 1, 1, 1, 0, 4);
        due(6, "cost(1, 1, 4): x is odd, y is not", s.cost(1, 1, 4), 1);
        due(6, "cost(1, 3, 4): y is odd, x is not", s.cost(1, 3, 4), 1);
        due(6, "cost(1, 9, 10): z is odd, x is not", s.cost(1, 9, 10), 1);
        due(6, "cost(1, 3, 6): y is odd", s.cost(1, 3, 6), 5);
        due(6, "cost(1, 9, 18): z is odd", s.cost(1, 9, 18), 5);
        due(6, "cost(1, 13, 14): x is odd", s.cost(1, 13, 14), 5);
    }

    private static void softIsTheMost() {
        SkinBox s = boxOf(4, 1, 1);
        setAll(s, 9, 1, 1, 0, 9, 9);
        due(6, "GRAINED, the greatest", s.cost(1, 1, 2), 18);
        due(6, "SOFTENED by 9", s.cost(2, 1, 2), 9);
        s.set(5, 1);
        due(6, "SOFTENED by 1", s.cost(2, 1, 2), 1);
        due(6, "SOFTENED by 1 without GRAIN", s.cost(2, 0, 1), 1);
        setAll(s, 3, 1, 1, 0, 2, 5);
        due(6, "as much as SOFT", s.cost(2, 1, 2), 5);
        s.set(4, 1);
        due(6, "one less than SOFT", s.cost(2, 1, 2), 4);
        s.set(4, 3);
        due(6, "one more than SOFT", s.cost(2, 1, 2), 5);
        setAll(s, 0, 0, 0, 0, 0, 1);
        due(6, "PLAIN, the least", s.cost(0, 1, 2), 0);
        due(6, "GRAINED, the least", s.cost(1, 1, 2), 0);
        due(6, "SOFTENED, the least", s.cost(2, 1, 2), 0);
    }

    private static void costGoesByItsOwnKind() {
        int[] dues = {4, 9, 7};
        for (int norm = 0; norm < 3; norm++) {
            SkinBox s = boxOf(4, 1, 1);
            setAll(s, 4, 1, 1, 0, 5, 7, norm);
            for (int kind = 0; kind < 3; kind++) {
                due(6, "cost(" + kind + ", 1, 2) by NORM " + norm, s.cost(kind, 1, 2), dues[kind]);
            }
            due(7, "skin(3) by NORM " + norm, s.skin(3), dues[norm]);
            due(6, "cost(-1, 1, 2)", s.cost(-1, 1, 2), -1);
            due(6, "cost(3, 1, 2)", s.cost(3, 1, 2), -1);
            due(22, "trace() by NORM " + norm, s.trace(), 123);
        }
    }

    // "numbers in brackets come to THE TRACE as often as cost() asks that body"; "at most 512 calls"

    private static void traceIsOfCostAlone() {
        SkinBox s = new SkinBox();
        long[] marks = {1, 11, 111};
        long sum = 0;
        for (int kind = 0; kind < 3; kind++) {
            s.cost(kind, 0, 1);
            sum += marks[kind];
            due(22, "trace() after KIND " + kind, s.trace(), sum);
        }
        s.set(6, 2);
        s.hold(0, 1);
        s.price(4, -3);
        s.skin(17);
        s.all(17);
        s.right(17);
        s.least();
        s.film(0);
        s.film(1);
        s.room(-2, 1);
        s.many();
        s.net(5, 5);
        s.rounds(3);
        s.count(3);
        s.cost(2, 0, 0);
        s.cost(2, 0, 4);
        s.cost(3, 0, 1);
        s.cost(2, 9, 8);
        due(22, "trace() after all others and refused ones", s.trace(), 123);
        s.box(2, 1, 1);
        due(22, "trace() after box()", s.trace(), 123);
    }

    private static void traceOfAllCallsOfAnObject() {
        SkinBox s = new SkinBox();
        for (int call = 1; call < 512; call++) {
            due(6, "cost(2, 0, 1), call " + call, s.cost(2, 0, 1), 1);
        }
        due(22, "trace(), the 512th call", s.trace(), 511 * 111);
    }

    // "WALLS for each side of a CELL in it that lies at the outside of THE BOX (a CELL may have several)"

    private static void wallsAreByEachSide() {
        int[][] sizes = {{1, 1, 1}, {2, 1, 1}, {1, 3, 1}, {1, 1, 4}, {3, 3, 1}, {2, 2, 2}, {3, 3, 3}, {3, 4, 3}};
        for (int[] d : sizes) {
            SkinBox s = boxOf(d[0], d[1], d[2]);
            setAll(s, 0, 0, 0, 7);
            int n = d[0] * d[1] * d[2];
            for (int cell = 0; cell < n; cell++) {
                int[] place = {cell % d[0], cell / d[0] % d[1], cell / (d[0] * d[1])};
                int walls = 0;
                for (int way = 0; way < 3; way++) {
                    walls += (place[way] == 0 ? 1 : 0) + (place[way] == d[way] - 1 ? 1 : 0);
                }
                due(7, "WALLS of CELL " + cell + " of " + n, s.skin(1L << cell), 7 * walls);
            }
            int outside = 2 * (d[0] * d[1] + d[1] * d[2] + d[0] * d[2]);
            due(7, "WALLS of all " + n, s.skin((1L << n) - 1), 7 * outside);
        }
        SkinBox s = boxOf(1, 1, 1);
        s.set(3, 9);
        due(7, "skin(1), six WALLS of 9", s.skin(1), 54);
        s = boxOf(3, 3, 3);
        s.set(3, 9);
        due(7, "skin of the CELL in the middle, no WALLS", s.skin(1L << 13), 6);
        due(7, "skin of all but the one in the middle", s.skin((1L << 27) - 1 - (1L << 13)), 54 * 9 + 6);
    }

    // "ALL of a SET: its SKIN and the PRICES of its CELLS."

    private static void allAtItsEnds() {
        SkinBox s = boxOf(4, 3, 3);
        long every = (1L << 36) - 1;
        setAll(s, 9, 9, 9, 9, 9, 9, 1);
        for (int cell = 0; cell < 36; cell++) {
            s.price(cell, 20);
        }
        due(8, "all of 36 dear ones", s.all(every), 66 * 9 + 36 * 20);
        long chequered = 0;
        for (int cell = 0; cell < 36; cell++) {
            chequered |= (long) (cell % 4 + cell / 4 % 3 + cell / 12 & 1) << cell;
        }
        // 75 SEAMS of 9, those 9 + 12 + 12 at an odd place with GRAIN; half of the 66 WALLS.
        due(7, "skin of every other CELL", s.skin(chequered), 75 * 9 + 33 * 9 + 33 * 9);
        due(8, "all of every other CELL", s.all(chequered), 75 * 9 + 33 * 9 + 33 * 9 + 18 * 20);
        setAll(s, 0, 0, 0, 0);
        for (int cell = 0; cell < 36; cell++) {
            s.price(cell, -20);
        }
        due(8, "all of 36 cheap ones", s.all(every), -720);
        due(8, "all of one of them", s.all(1), -20);
        s.price(0, -1);
        due(8, "all(1), -1 is not BAD", s.all(1), -1);
        due(10, "least()", s.least(), -701);
    }

    // "A SET is RIGHT, if it has all CELLS that are IN, none that is OUT."

    private static void rightIsAllInAndNoneOut() {
        SkinBox s = boxOf(3, 1, 1);
        int[][] dues = {
            {1, 1, 1, 1, 1, 1, 1, 1}, {0, 1, 0, 1, 0, 1, 0, 1}, {1, 0, 1, 0, 1, 0, 1, 0},
            {0, 0, 0, 0, 0, 1, 0, 1}, {0, 1, 0, 1, 0, 0, 0, 0}, {1, 0, 1, 0, 0, 0, 0, 0}};
        int[][] holds = {{0, 0}, {1, 0}, {2, 0}, {1, 1}, {1, 2}, {2, 2}};
        for (int i = 0; i < holds.length; i++) {
            s.hold(0, holds[i][0]);
            s.hold(2, holds[i][1]);
            for (int set = 0; set < 8; set++) {
                String held = holds[i][0] + ", FREE, " + holds[i][1];
                due(9, "right(" + set + ") with " + held, s.right(set), dues[i][set]);
            }
            due(9, "right(8)", s.right(8), -1);
        }
    }

    // "LEAST: the least ALL of RIGHT SETS. .. so there is a LOWEST one .., and a HIGHEST one"

    private static void leastOfHeldBoxes() {
        SkinBox s = boxOf(4, 3, 3);
        long every = (1L << 36) - 1;
        setAll(s, 1, 1, 1, 2);
        for (int cell = 0; cell < 36; cell++) {
            s.hold(cell, 1);
            s.price(cell, 1);
        }
        due(10, "least(), all IN", s.least(), 66 * 2 + 36);
        due(11, "film(0), all IN", s.film(0), every);
        due(11, "film(1), all IN", s.film(1), every);
        due(12, "room(60, 0), all IN", s.room(60, 0), 36);
        due(13, "many(), none FREE", s.many(), 1);
        for (int cell = 0; cell < 36; cell++) {
            s.hold(cell, 2);
            s.price(cell, -20);
        }
        due(10, "least(), all OUT", s.least(), 0);
        due(11, "film(0), all OUT", s.film(0), 0);
        due(11, "film(1), all OUT", s.film(1), 0);
        due(12, "room(-60, 1), all OUT", s.room(-60, 1), 0);
        due(13, "many(), none FREE", s.many(), 1);
        due(9, "right(0), all OUT", s.right(0), 1);
    }

    private static void leastOfFreeBoxes() {
        int[][] sizes = {{1, 1, 1}, {3, 3, 1}, {4, 3, 3}};
        for (int[] d : sizes) {
            SkinBox s = boxOf(d[0], d[1], d[2]);
            int n = d[0] * d[1] * d[2];
            long every = (1L << n) - 1;
            due(10, "least(), all FREE", s.least(), 0);
            due(11, "film(0), all FREE", s.film(0), 0);
            due(11, "film(1), all FREE", s.film(1), every);
            s.price(n - 1, 1);
            due(11, "film(1), one is dear", s.film(1), 0);
            s.price(n - 1, -1);
            due(10, "least(), one is cheap", s.least(), -1);
            due(11, "film(0), one is cheap", s.film(0), every);
            s.price(n - 1, 0);
            s.set(3, 1);
            due(11, "film(1), WALLS", s.film(1), 0);
        }
    }

    private static void leastTakesTheLesserOfTwo() {
        SkinBox s = boxOf(4, 1, 1);
        s.hold(0, 1);
        s.hold(3, 2);
        setAll(s, 3, 1, 1, 0, 2, 4, 1);
        due(10, "least(), GRAIN in the middle", s.least(), 3);
        due(11, "film(0), before it", s.film(0), 1);
        due(11, "film(1), behind it", s.film(1), 7);
        due(13, "many(), the two", s.many(), 2);
        s.price(2, 1);
        due(11, "film(1), the further one is dearer", s.film(1), 1);
        due(13, "many(), one", s.many(), 1);
        s.price(2, -1);
        due(10, "least(), the further one is cheaper", s.least(), 2);
        due(11, "film(0), the further one is cheaper", s.film(0), 7);
        s.set(6, 2);
        s.price(2, 0);
        due(10, "least(), SOFTENED", s.least(), 3);
        s.set(5, 3);
        due(13, "many(), SOFTENED to one COST", s.many(), 3);
        due(11, "film(-1)", s.film(-1), -1);
        due(11, "film(2)", s.film(2), -1);
    }

    // "ROOM by a price v (-60 .. 60): v is added to each PRICE"

    private static void roomPricesAreMinusSixtyToSixty() {
        SkinBox s = boxOf(1, 1, 1);
        s.set(3, 9);
        int[] prices = {5, 6, 7};
        int[] lowest = {1, 0, 0};
        int[] highest = {1, 1, 0};
        for (int i = 0; i < 3; i++) {
            s.price(0, prices[i]);
            due(12, "room(-60, 0), 54 for WALLS and " + prices[i], s.room(-60, 0), lowest[i]);
            due(12, "room(-60, 1), 54 for WALLS and " + prices[i], s.room(-60, 1), highest[i]);
        }
        due(12, "room(-61, 0)", s.room(-61, 0), -1);
        due(12, "room(-61, 1)", s.room(-61, 1), -1);
        s = boxOf(4, 1, 1);
        s.set(0, 9);
        for (int cell = 0; cell < 4; cell++) {
            s.price(cell, -20);
        }
        s.hold(0, 1);
        due(12, "room(23, 0)", s.room(23, 0), 1);
        due(12, "room(23, 1), three of 3 are the SEAM's 9", s.room(23, 1), 4);
        due(12, "room(22, 0)", s.room(22, 0), 4);
        due(12, "room(24, 1)", s.room(24, 1), 1);
        due(12, "room(60, 0)", s.room(60, 0), 1);
        due(12, "room(60, 1)", s.room(60, 1), 1);
        due(12, "room(61, 0)", s.room(61, 0), -1);
        due(12, "room(61, 1)", s.room(61, 1), -1);
        due(12, "room(0, -1)", s.room(0, -1), -1);
        due(12, "room(0, 2)", s.room(0, 2), -1);
        due(4, "price(3, 0), PRICES stay", s.price(3, 0), -20);
    }

    // "MANY: how many RIGHT SETS have LEAST, if there are 12 FREE CELLS at most." "STATE: more than 12 are FREE."

    private static void manyIsOfTwelveFree() {
        SkinBox s = boxOf(4, 3, 3);
        setAll(s, 0, 0, 0);
        for (int free = 36; free >= 0; free--) {
            due(21, "count(3)", s.count(3), free);
            due(13, "many(), " + free + " FREE", s.many(), free > 12 ? -2 : 1 << free);
            if (free > 0) {
                due(3, "hold", s.hold(free - 1, 1 + free % 2), 0);
            }
        }
        due(3, "hold(35, 0)", s.hold(35, 0), 1);
        due(13, "many(), one FREE again", s.many(), 2);
        s = boxOf(3, 4, 1);
        due(13, "many(), a box of 12", s.many(), 2);
        s = boxOf(4, 4, 1);
        due(13, "many(), a box of 16", s.many(), -2);
    }

    // "box: A new BOX: all FREE, PRICES 0: how many CELLS."

    private static void newBoxIsFreeAndWithoutPrices() {
        SkinBox s = boxOf(4, 3, 3);
        int[] rules = {2, 3, 4, 5, 6, 7, 2};
        setAll(s, rules);
        for (int cell = 0; cell < 36; cell++) {
            s.hold(cell, 1 + cell % 2);
            s.price(cell, 20 - cell);
        }
        s.lift(3, 3, 44);
        s.pin(3, 3, false);
        due(2, "box(1, 1, 1)", s.box(1, 1, 1), 1);
        due(21, "count(3)", s.count(3), 1);
        due(10, "least() of the new one", s.least(), 0);
        due(11, "film(1) of the new one", s.film(1), 0);
        due(2, "box(4, 3, 3), as it was", s.box(4, 3, 3), 36);
        for (int cell = 0; cell < 36; cell++) {
            due(2, "hold(" + cell + ", 0) anew", s.hold(cell, 0), 0);
            due(2, "price(" + cell + ", 0) anew", s.price(cell, 0), 0);
        }
        for (int what = 0; what < 7; what++) {
            due(2, "set(" + what + ", 1) stays", s.set(what, 1), rules[what]);
        }
        due(2, "height(3, 3) stays", s.height(3, 3), 44);
        due(2, "count(6) stays", s.count(6), 11);
    }

    // "THE NET has W columns, H rows (2 .. 8 each; 4, 4 at first) of POINTS, each of a height (-100 .. 100;
    // 0 at first), is PINNED or not (those of the first and last column, the first and last row are, at first)."

    private static void netIsTwoToEight() {
        for (int w = 0; w <= 10; w++) {
            for (int h = 0; h <= 10; h++) {
                boolean taken = w >= 2 && w <= 8 && h >= 2 && h <= 8;
                SkinBox s = new SkinBox();
                due(14, "net(" + w + ", " + h + ")", s.net(w, h), taken ? (w - 2) * (h - 2) : -1);
                due(21, "count(4) after net(" + w + ", " + h + ")", s.count(4), taken ? w : 4);
                due(21, "count(5) after net(" + w + ", " + h + ")", s.count(5), taken ? h : 4);
                due(21, "count(6)", s.count(6), taken ? w * h - (w - 2) * (h - 2) : 12);
                due(21, "count(7), all 0", s.count(7), 1);
            }
        }
    }

    private static void rimIsPinnedAtFirst() {
        int[][] sizes = {{4, 4}, {2, 2}, {8, 8}, {2, 8}, {8, 2}, {3, 5}};
        for (int[] d : sizes) {
            SkinBox s = new SkinBox();
            if (d != sizes[0]) {
                s.net(d[0], d[1]);
            }
            for (int y = 0; y < d[1]; y++) {
                for (int x = 0; x < d[0]; x++) {
                    boolean rim = x == 0 || y == 0 || x == d[0] - 1 || y == d[1] - 1;
                    due(16, "pin(" + x + ", " + y + ", false) at first", s.pin(x, y, false), rim ? 1 : 0);
                    due(17, "height(" + x + ", " + y + ") at first", s.height(x, y), 0);
                }
            }
            due(21, "count(6), none PINNED", s.count(6), 0);
            due(18, "drawn()", s.drawn(), 0);
            due(19, "slack()", s.slack(), 0);
        }
    }

    private static void pointsEndWithTheNet() {
        int[][] sizes = {{2, 2}, {8, 8}, {3, 7}, {7, 3}};
        for (int[] d : sizes) {
            SkinBox s = netOf(d[0], d[1]);
            int w = d[0];
            int h = d[1];
            int[][] taken = {{0, 0}, {w - 1, 0}, {0, h - 1}, {w - 1, h - 1}};
            int v = 1;
            for (int[] p : taken) {
                due(15, "lift at a corner", s.lift(p[0], p[1], v), 0);
                due(17, "height at a corner", s.height(p[0], p[1]), v);
                due(16, "pin at a corner", s.pin(p[0], p[1], true), 1);
                v++;
            }
            int[][] refused = {{-1, 0}, {0, -1}, {w, 0}, {0, h}, {w - 1, h}, {w, h - 1}, {-1, h - 1}, {w - 1, -1}};
            for (int[] p : refused) {
                due(15, "lift(" + p[0] + ", " + p[1] + ", 9)", s.lift(p[0], p[1], 9), NO);
                due(17, "height(" + p[0] + ", " + p[1] + ")", s.height(p[0], p[1]), NO);
                due(16, "pin(" + p[0] + ", " + p[1] + ", true)", s.pin(p[0], p[1], true), -1);
            }
            for (int i = 0; i < 4; i++) {
                due(17, "height at a corner after all", s.height(taken[i][0], taken[i][1]), i + 1);
            }
        }
    }

    private static void heightsAreMinusHundredToHundred() {
        SkinBox s = new SkinBox();
        int[][] points = {{0, 0}, {1, 2}, {3, 3}};
        for (int[] p : points) {
            due(15, "lift to -100", s.lift(p[0], p[1], -100), 0);
            due(15, "lift to -101", s.lift(p[0], p[1], -101), NO);
            due(17, "height", s.height(p[0], p[1]), -100);
            due(15, "lift to 100", s.lift(p[0], p[1], 100), -100);
            due(15, "lift to 101", s.lift(p[0], p[1], 101), NO);
            due(17, "height", s.height(p[0], p[1]), 100);
            due(15, "lift to -1", s.lift(p[0], p[1], -1), 100);
            due(15, "lift to 0, what it was may look like BAD", s.lift(p[0], p[1], 0), -1);
        }
    }

    // "DRAWN: the sum of sizes of differences of heights, of all POINTS beside each other (in a row, in a column)."

    private static void drawnIsOfNeighbours() {
        SkinBox s = netOf(2, 2);
        s.lift(0, 0, 100);
        due(18, "drawn(), one of four", s.drawn(), 200);
        s.lift(1, 1, 100);
        due(18, "drawn(), two across", s.drawn(), 400);
        s.lift(1, 0, -100);
        s.lift(0, 1, -100);
        due(18, "drawn(), the most of four", s.drawn(), 800);
        s = netOf(8, 8);
        for (int i = 0; i < 64; i++) {
            s.lift(i % 8, i / 8, (i % 8 + i / 8) % 2 == 0 ? 100 : -100);
        }
        due(18, "drawn(), the most of all", s.drawn(), 112 * 200);
        s = netOf(3, 2);
        s.lift(2, 0, 5);
        due(18, "drawn(), the end of a row and the next one's start are apart", s.drawn(), 10);
        s.lift(0, 1, 5);
        due(18, "drawn(), rows do not wrap around", s.drawn(), 20);
    }

    // "A STEP at a POINT that is not PINNED: of its neighbours' heights in order the two in the middle (of three
    // the one in the middle, twice): if it is below the lower one it becomes that; if it is above the upper one,
    // that; else it stays."

    private static void step(SkinBox s, int x, int y, int own, int due) {
        s.lift(x, y, own);
        String what = "a STEP from " + own + " at (" + x + ", " + y + ")";
        due(19, "slack(), " + what, s.slack(), Math.abs(due - own));
        due(21, "count(7), " + what, s.count(7), due == own ? 1 : 0);
        due(20, "rounds(1), " + what, s.rounds(1), due == own ? 0 : 1);
        due(17, "height, " + what, s.height(x, y), due);
    }

    private static void stepByFour() {
        int[][] orders = {{-7, 2, 6, 30}, {30, 6, 2, -7}, {6, -7, 30, 2}, {2, 30, -7, 6}};
        for (int[] near : orders) {
            SkinBox s = netOf(3, 3);
            s.lift(1, 0, near[0]);
            s.lift(0, 1, near[1]);
            s.lift(2, 1, near[2]);
            s.lift(1, 2, near[3]);
            step(s, 1, 1, -100, 2);
            step(s, 1, 1, 1, 2);
            step(s, 1, 1, 2, 2);
            step(s, 1, 1, 3, 3);
            step(s, 1, 1, 5, 5);
            step(s, 1, 1, 6, 6);
            step(s, 1, 1, 7, 6);
            step(s, 1, 1, 100, 6);
            s.pin(1, 1, true);
            step(s, 1, 1, 100, 100);
        }
    }

    private static void stepByThree() {
        int[][] places = {{1, 0}, {0, 1}, {2, 1}, {1, 2}};
        for (int[] p : places) {
            SkinBox s = netOf(3, 3);
            s.pin(1, 1, true);
            s.pin(p[0], p[1], false);
            // The POINT in the middle of THE NET, and the two corners beside the one of the rim.
            s.lift(1, 1, 40);
            s.lift(p[0] == 1 ? 0 : p[0], p[1] == 1 ? 0 : p[1], -9);
            s.lift(p[0] == 1 ? 2 : p[0], p[1] == 1 ? 2 : p[1], 4);
            step(s, p[0], p[1], -100, 4);
            step(s, p[0], p[1], 3, 4);
            step(s, p[0], p[1], 4, 4);
            step(s, p[0], p[1], 5, 4);
            step(s, p[0], p[1], 100, 4);
        }
    }

    private static void stepByTwo() {
        int[][] places = {{0, 0}, {1, 0}, {0, 1}, {1, 1}};
        for (int[] p : places) {
            SkinBox s = netOf(2, 2);
            s.pin(p[0], p[1], false);
            s.lift(1 - p[0], p[1], 8);
            s.lift(p[0], 1 - p[1], -3);
            s.lift(1 - p[0], 1 - p[1], 77);
            step(s, p[0], p[1], -100, -3);
            step(s, p[0], p[1], -4, -3);
            step(s, p[0], p[1], -3, -3);
            step(s, p[0], p[1], 0, 0);
            step(s, p[0], p[1], 8, 8);
            step(s, p[0], p[1], 9, 8);
            step(s, p[0], p[1], 100, 8);
        }
    }

    // "A ROUND: a STEP at each, by rows, by columns."

    /** A row of six whose middle heights become 5 once the one before, as seen from the high end, is. */
    private static SkinBox row(boolean highAtTheEnd) {
        SkinBox s = netOf(8, 3);
        for (int x = 0; x < 8; x++) {
            s.lift(x, 0, 10);
            s.lift(x, 2, 5);
        }
        s.lift(highAtTheEnd ? 7 : 0, 1, 10);
        return s;
    }

    private static SkinBox column(boolean highAtTheEnd) {
        SkinBox s = netOf(3, 8);
        for (int y = 0; y < 8; y++) {
            s.lift(0, y, 10);
            s.lift(2, y, 5);
        }
        s.lift(1, highAtTheEnd ? 7 : 0, 10);
        return s;
    }

    private static void roundsGoOnwards() {
        SkinBox[] onward = {row(false), column(false)};
        for (SkinBox s : onward) {
            due(19, "slack(): one would change", s.slack(), 5);
            due(20, "rounds(50), all in one", s.rounds(50), 1);
            due(21, "count(7)", s.count(7), 1);
        }
        SkinBox[] back = {row(true), column(true)};
        for (SkinBox s : back) {
            due(19, "slack(): one would change", s.slack(), 5);
            due(20, "rounds(1)", s.rounds(1), 1);
            due(19, "slack() after one", s.slack(), 5);
            due(21, "count(7) after one", s.count(7), 0);
        }
        due(17, "height(6, 1) after one", back[0].height(6, 1), 5);
        due(17, "height(5, 1) after one", back[0].height(5, 1), 0);
        due(17, "height(1, 6) after one", back[1].height(1, 6), 5);
        due(17, "height(1, 5) after one", back[1].height(1, 5), 0);
    }

    // "n ROUNDS (1 .. 50), none more once it is AT REST: how many were done."

    private static void roundsAreOneToFifty() {
        for (int n = 1; n <= 50; n++) {
            SkinBox s = row(true);
            due(20, "rounds(" + n + ") of six", s.rounds(n), Math.min(n, 6));
            due(21, "count(7) after " + n, s.count(7), n >= 6 ? 1 : 0);
            due(20, "rounds(50) for the rest", s.rounds(50), Math.max(0, 6 - n));
            due(20, "rounds(1) AT REST", s.rounds(1), 0);
            due(20, "rounds(50) AT REST", s.rounds(50), 0);
        }
        SkinBox s = row(true);
        int[] refused = {0, 51, -1, -50};
        for (int n : refused) {
            due(20, "rounds(" + n + ")", s.rounds(n), -1);
            due(17, "height(6, 1) after rounds(" + n + ")", s.height(6, 1), 0);
        }
        due(20, "rounds(50) after them", s.rounds(50), 6);
        due(20, "rounds(0) AT REST", s.rounds(0), -1);
        due(20, "rounds(51) AT REST", s.rounds(51), -1);
    }

    // "AT REST: no STEP would change one." "SLACK: the sum, over POINTS not PINNED, .. as they all are now."

    private static void slackIsOfAllAsTheyAreNow() {
        SkinBox s = netOf(4, 3);
        s.lift(1, 1, 10);
        s.lift(2, 1, 10);
        // Each has three neighbours at 0 and one at 10, so both would sink, whatever the other does then.
        due(19, "slack() of two", s.slack(), 20);
        due(17, "height(1, 1), only asked", s.height(1, 1), 10);
        s.pin(1, 1, true);
        due(19, "slack(), one PINNED", s.slack(), 10);
        s.pin(2, 1, true);
        due(19, "slack(), both PINNED", s.slack(), 0);
        due(21, "count(7), both PINNED", s.count(7), 1);
        due(20, "rounds(1), both PINNED", s.rounds(1), 0);
        s = netOf(2, 2);
        for (int i = 0; i < 4; i++) {
            s.pin(i % 2, i / 2, false);
        }
        s.lift(0, 0, 100);
        s.lift(1, 1, 100);
        s.lift(1, 0, -100);
        s.lift(0, 1, -100);
        due(19, "slack(), each would go where the others were", s.slack(), 800);
        due(20, "rounds(1)", s.rounds(1), 1);
        due(18, "drawn(), the first went and drew all", s.drawn(), 0);
        due(17, "height(1, 1)", s.height(1, 1), -100);
    }

    // "net: A new NET, all 0: how many POINTS are not PINNED."

    private static void newNetIsFlatWithItsRimPinned() {
        SkinBox s = boxOf(2, 2, 2);
        s.hold(7, 2);
        s.price(7, -20);
        s.cost(1, 0, 1);
        s.net(8, 8);
        for (int i = 0; i < 64; i++) {
            s.lift(i % 8, i / 8, 100 - i);
            s.pin(i % 8, i / 8, i % 8 == 3);
        }
        due(14, "net(2, 2)", s.net(2, 2), 0);
        due(18, "drawn()", s.drawn(), 0);
        due(14, "net(8, 8), as it was", s.net(8, 8), 36);
        due(21, "count(6)", s.count(6), 28);
        for (int i = 0; i < 64; i++) {
            boolean rim = i % 8 == 0 || i % 8 == 7 || i / 8 == 0 || i / 8 == 7;
            due(14, "height anew", s.height(i % 8, i / 8), 0);
            due(14, "pin anew", s.pin(i % 8, i / 8, false), rim ? 1 : 0);
        }
        due(14, "count(3), the box stays", s.count(3), 7);
        due(14, "price(7, 0), the box stays", s.price(7, 0), -20);
        due(14, "trace() stays", s.trace(), 11);
    }

    // "pin: A POINT is PINNED, or not: what it was (1, 0)."

    private static void pinsChangeOnePoint() {
        SkinBox s = new SkinBox();
        int pins = 12;
        for (int i = 0; i < 16; i++) {
            boolean rim = i % 4 == 0 || i % 4 == 3 || i < 4 || i >= 12;
            due(16, "pin(.., !is)", s.pin(i % 4, i / 4, !rim), rim ? 1 : 0);
            pins += rim ? -1 : 1;
            due(21, "count(6)", s.count(6), pins);
            due(16, "pin(.., !is) again", s.pin(i % 4, i / 4, !rim), rim ? 0 : 1);
            due(21, "count(6) again", s.count(6), pins);
        }
        due(21, "count(6), all turned", s.count(6), 4);
    }

    // "count: 0 X, 1 Y, 2 Z, 3 FREE CELLS, 4 W, 5 H, 6 POINTS that are PINNED, 7 whether THE NET is AT REST. BAD."

    private static void countsAreZeroToSeven() {
        SkinBox s = boxOf(2, 3, 4);
        s.hold(23, 1);
        s.hold(0, 2);
        s.net(7, 5);
        s.lift(3, 2, 50);
        int[] dues = {2, 3, 4, 22, 7, 5, 20, 0};
        for (int what = 0; what < 8; what++) {
            due(21, "count(" + what + ")", s.count(what), dues[what]);
        }
        due(21, "count(-1)", s.count(-1), -1);
        due(21, "count(8)", s.count(8), -1);
        s.pin(3, 2, true);
        due(21, "count(6), one more", s.count(6), 21);
        due(21, "count(7), PINNED", s.count(7), 1);
        for (int cell = 0; cell < 24; cell++) {
            s.hold(cell, 2);
        }
        due(21, "count(3), none FREE", s.count(3), 0);
    }

    private static void theBox() {
        sidesAreOneToFour();
        cellsAreThirtySixAtMost();
        boxAtFirst();
        cellsAreNumbered();
        rowsDoNotWrapAround();
        heldIsZeroToTwo();
        pricesAreMinusTwentyToTwenty();
        setsEndWithTheLastCell();
        rulesHaveBounds();
        newBoxIsFreeAndWithoutPrices();
    }

    private static void theSkins() {
        grainIsWherePlacesAreOdd();
        grainGoesByThePlaceAlongTheWay();
        softIsTheMost();
        costGoesByItsOwnKind();
        traceIsOfCostAlone();
        traceOfAllCallsOfAnObject();
        wallsAreByEachSide();
        allAtItsEnds();
        rightIsAllInAndNoneOut();
        leastOfHeldBoxes();
        leastOfFreeBoxes();
        leastTakesTheLesserOfTwo();
        roomPricesAreMinusSixtyToSixty();
        manyIsOfTwelveFree();
    }

    private static void theNet() {
        netIsTwoToEight();
        rimIsPinnedAtFirst();
        pointsEndWithTheNet();
        heightsAreMinusHundredToHundred();
        drawnIsOfNeighbours();
        stepByFour();
        stepByThree();
        stepByTwo();
        roundsGoOnwards();
        roundsAreOneToFifty();
        slackIsOfAllAsTheyAreNow();
        newNetIsFlatWithItsRimPinned();
        pinsChangeOnePoint();
        countsAreZeroToSeven();
    }

    public static void main(String[] args) {
        theBox();
        theSkins();
        theNet();
        Due.end("all edges are as due");
    }
}
