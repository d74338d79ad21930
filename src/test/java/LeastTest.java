import java.util.Random;

/**
 * Promises 7 to 13 against second writings from the document's words: all RIGHT SETS tried one by one
 * where few CELLS are FREE; in full boxes, LEAST found by going from CELL to CELL with the best of each
 * shape that the last layer can have, and LOWEST and HIGHEST by holding each CELL out and in.
 */
public final class LeastTest {
    private static int wrong = 0;

    private static void due(int promise, String what, long got, long want) {
        if (got != want) {
            wrong++;
            System.out.println("promise " + promise + ": " + what + " answered " + got + ", due is " + want);
        }
    }

    /** A box as it was told to the program. */
    private static final class Told {
        final int[] size = {3, 3, 1};
        final int[] rules = {1, 1, 1, 0, 0, 9, 0};
        int[] held = new int[9];
        int[] price = new int[9];

        int cells() {
            return size[0] * size[1] * size[2];
        }

        int place(int cell, int way) {
            return way == 0 ? cell % size[0] : way == 1 ? cell / size[0] % size[1] : cell / (size[0] * size[1]);
        }

        int stride(int way) {
            return way == 0 ? 1 : way == 1 ? size[0] : size[0] * size[1];
        }

        int seam(int way, int place) {
            int plain = rules[way];
            int grained = plain + (place % 2 == 1 ? rules[4] : 0);
            int softened = Math.min(grained, rules[5]);
            return rules[6] == 0 ? plain : rules[6] == 1 ? grained : softened;
        }

        int walls(int cell) {
            int walls = 0;
            for (int way = 0; way < 3; way++) {
                walls += place(cell, way) == 0 ? 1 : 0;
                walls += place(cell, way) == size[way] - 1 ? 1 : 0;
            }
            return walls * rules[3];
        }

        long skin(long set) {
            long skin = 0;
            for (int cell = 0; cell < cells(); cell++) {
                long in = set >> cell & 1;
                skin += in * walls(cell);
                for (int way = 0; way < 3; way++) {
                    if (place(cell, way) + 1 < size[way] && (set >> cell + stride(way) & 1) != in) {
                        skin += seam(way, place(cell, way));
                    }
                }
            }
            return skin;
        }

        long all(long set, int rise) {
            long all = skin(set);
            for (int cell = 0; cell < cells(); cell++) {
                all += (set >> cell & 1) * (price[cell] + rise);
            }
            return all;
        }
    }

    private static Told tell(SkinBox s, Random random, int x, int y, int z) {
        Told told = new Told();
        told.size[0] = x;
        told.size[1] = y;
        told.size[2] = z;
        told.held = new int[x * y * z];
        told.price = new int[x * y * z];
        due(2, "box", s.box(x, y, z), x * y * z);
        boolean tame = random.nextBoolean();
        for (int what = 0; what < 7; what++) {
            int v = what == 6 ? random.nextInt(3) : what == 5 ? 1 + random.nextInt(9)
                    : random.nextInt(tame ? 3 : 10);
            if (random.nextInt(3) > 0) {
                s.set(what, v);
                told.rules[what] = v;
            }
        }
        if (random.nextInt(3) == 0) {
            s.set(3, 0);
            told.rules[3] = 0;
        }
        int span = tame ? 2 : 20;
        for (int cell = 0; cell < x * y * z; cell++) {
            if (random.nextInt(2) == 0) {
                told.price[cell] = random.nextInt(2 * span + 1) - span;
                s.price(cell, told.price[cell]);
            }
        }
        return told;
    }

    private static void holdSome(SkinBox s, Told told, Random random, int freeAtMost) {
        int free = told.cells();
        while (free > freeAtMost) {
            int cell = random.nextInt(told.cells());
            if (told.held[cell] == 0) {
                told.held[cell] = 1 + random.nextInt(2);
                s.hold(cell, told.held[cell]);
                free--;
            }
        }
    }

    private static void tryAll(SkinBox s, Told told, int rise) {
        long base = 0;
        int free = 0;
        int[] open = new int[told.cells()];
        for (int cell = 0; cell < told.cells(); cell++) {
            if (told.held[cell] == 0) {
                open[free++] = cell;
            } else if (told.held[cell] == 1) {
                base |= 1L << cell;
            }
        }
        long least = Long.MAX_VALUE;
        long lowest = 0;
        long highest = 0;
        int many = 0;
        for (int pick = 0; pick < 1 << free; pick++) {
            long set = base;
            for (int i = 0; i < free; i++) {
                set |= (long) (pick >> i & 1) << open[i];
            }
            long all = told.all(set, rise);
            if (all < least) {
                least = all;
                lowest = set;
                highest = set;
                many = 0;
            }
            if (all == least) {
                lowest &= set;
                highest |= set;
                many++;
            }
        }
        due(12, "room(" + rise + ", 0)", s.room(rise, 0), Long.bitCount(lowest));
        due(12, "room(" + rise + ", 1)", s.room(rise, 1), Long.bitCount(highest));
        if (rise == 0) {
            due(10, "least()", s.least(), least);
            due(11, "film(0)", s.film(0), lowest);
            due(11, "film(1)", s.film(1), highest);
            due(13, "many()", s.many(), free > 12 ? -2 : many);
            due(9, "right(film(0))", s.right(s.film(0)), 1);
            due(8, "all(film(1))", s.all(s.film(1)), least);
        }
    }

    private static void fewFree(Random random) {
        for (int run = 0; run < 300; run++) {
            SkinBox s = new SkinBox();
            int x = 1 + random.nextInt(4);
            int y = 1 + random.nextInt(4);
            int z = 1 + random.nextInt(Math.min(4, 36 / (x * y)));
            Told told = tell(s, random, x, y, z);
            holdSome(s, told, random, random.nextInt(run % 10 == 0 ? 14 : 12));
            for (int i = 0; i < 5; i++) {
                long set = random.nextLong() & (1L << told.cells()) - 1;
                due(7, "skin(" + set + ")", s.skin(set), told.skin(set));
                due(8, "all(" + set + ")", s.all(set), told.all(set, 0));
            }
            tryAll(s, told, random.nextInt(121) - 60);
            tryAll(s, told, 0);
            tryAll(s, told, random.nextInt(7) - 3);
            tryAll(s, told, 0);
        }
    }

    private static final long NEVER = 1L << 40;

    /** The least ALL of RIGHT SETS, by the best for each shape of the X * Y CELLS before. */
    private static long bestByLayers(Told told, int rise) {
        int layer = told.size[0] * told.size[1];
        int shapes = 1 << layer;
        long[] best = new long[shapes];
        java.util.Arrays.fill(best, NEVER);
        best[0] = 0;
        for (int cell = 0; cell < told.cells(); cell++) {
            long[] next = new long[shapes];
            java.util.Arrays.fill(next, NEVER);
            int own = told.price[cell] + rise + told.walls(cell);
            for (int shape = 0; shape < shapes; shape++) {
                for (int in = 0; in < 2 && best[shape] < NEVER; in++) {
                    if (told.held[cell] == (in == 1 ? 2 : 1)) {
                        continue;
                    }
                    long value = best[shape] + in * own;
                    for (int way = 0; way < 3; way++) {
                        int place = told.place(cell, way);
                        if (place > 0 && (shape >> told.stride(way) - 1 & 1) != in) {
                            value += told.seam(way, place - 1);
                        }
                    }
                    int after = (shape << 1 | in) & shapes - 1;
                    next[after] = Math.min(next[after], value);
                }
            }
            best = next;
        }
        long least = NEVER;
        for (long b : best) {
            least = Math.min(least, b);
        }
        return least;
    }

    private static long keepsLeast(Told told, int rise, long least, int how) {
        long set = 0;
        for (int cell = 0; cell < told.cells(); cell++) {
            int was = told.held[cell];
            boolean keeps = was == how;
            if (was == 0) {
                told.held[cell] = how;
                keeps = bestByLayers(told, rise) == least;
                told.held[cell] = was;
            }
            set |= keeps ? 1L << cell : 0;
        }
        return set;
    }

    private static void fullBoxes(Random random) {
        int[][] sizes = {{4, 3, 3}, {3, 3, 4}, {3, 4, 3}, {2, 4, 4}, {3, 3, 3}, {4, 2, 4}, {2, 2, 4}, {3, 4, 1}};
        for (int run = 0; run < 48; run++) {
            int[] size = sizes[run % sizes.length];
            SkinBox s = new SkinBox();
            Told told = tell(s, random, size[0], size[1], size[2]);
            holdSome(s, told, random, told.cells() - random.nextInt(6));
            int rise = run % 3 == 0 ? 0 : random.nextInt(21) - 10;
            long least = bestByLayers(told, rise);
            long lowest = (1L << told.cells()) - 1 & ~keepsLeast(told, rise, least, 2);
            long highest = keepsLeast(told, rise, least, 1);
            due(12, "room(" + rise + ", 0)", s.room(rise, 0), Long.bitCount(lowest));
            due(12, "room(" + rise + ", 1)", s.room(rise, 1), Long.bitCount(highest));
            due(10, "least()", s.least(), bestByLayers(told, 0));
            if (rise == 0) {
                due(11, "film(0)", s.film(0), lowest);
                due(11, "film(1)", s.film(1), highest);
            }
        }
    }

    /** Room never shrinks as its price falls, and no change of the box is overlooked by what was found before. */
    private static void changes(Random random) {
        SkinBox s = new SkinBox();
        Told told = tell(s, random, 3, 3, 1);
        for (int turn = 0; turn < 400; turn++) {
            int cell = random.nextInt(9);
            int what = random.nextInt(7);
            switch (random.nextInt(3)) {
                case 0:
                    int how = random.nextInt(3);
                    due(3, "hold", s.hold(cell, how), told.held[cell]);
                    told.held[cell] = how;
                    break;
                case 1:
                    int v = random.nextInt(11) - 5;
                    due(4, "price", s.price(cell, v), told.price[cell]);
                    told.price[cell] = v;
                    break;
                default:
                    int rule = what == 6 ? random.nextInt(3) : 1 + random.nextInt(5);
                    due(5, "set", s.set(what, rule), told.rules[what]);
                    told.rules[what] = rule;
            }
            tryAll(s, told, 0);
            tryAll(s, told, random.nextInt(21) - 10);
        }
        int before = 0;
        for (int v = 60; v >= -60; v--) {
            int low = s.room(v, 0);
            int high = s.room(v, 1);
            due(12, "room falls at price " + v, low >= before && high >= low ? 1 : 0, 1);
            before = high;
        }
    }

    public static void main(String[] args) {
        Random random = new Random(36);
        fewFree(random);
        fullBoxes(random);
        changes(random);
        System.out.println(wrong == 0 ? "least ones are as due" : wrong + " answers are not as due");
        if (wrong != 0) {
            System.exit(1);
        }
    }
}
