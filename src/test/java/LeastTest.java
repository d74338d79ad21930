import java.util.Random;

/**
 * Promises 7 to 13 against second writings from the document's words: all RIGHT SETS tried one by one
 * where few CELLS are FREE, and in full boxes the best SETS from CELL to CELL.
 */
public final class LeastTest {

    private static ToldBox tell(SkinBox s, Random random, int x, int y, int z) {
        ToldBox told = new ToldBox();
        told.lay(x, y, z);
        Due.due(2, "box", s.box(x, y, z), x * y * z);
        boolean tame = random.nextBoolean();
        for (int what = 0; what < 7; what++) {
            int v = what == 6 ? random.nextInt(3) : what == 5 ? 1 + random.nextInt(9)
                    : random.nextInt(tame ? 3 : 10);
            if (random.nextInt(3) > 0) {
                s.set(what, v);
                told.rules[what] = v;
            }
        }
        if (random.nextInt(3) == 0) {
            s.set(3, 0);
            told.rules[3] = 0;
        }
        int span = tame ? 2 : 20;
        for (int cell = 0; cell < x * y * z; cell++) {
            if (random.nextInt(2) == 0) {
                told.price[cell] = random.nextInt(2 * span + 1) - span;
                s.price(cell, told.price[cell]);
            }
        }
        return told;
    }

    private static void holdSome(SkinBox s, ToldBox told, Random random, int freeAtMost) {
        for (int free = told.cells(); free > freeAtMost; free--) {
            int cell = random.nextInt(told.cells());
            while (told.held[cell] != 0) {
                cell = (cell + 1) % told.cells();
            }
            told.held[cell] = 1 + random.nextInt(2);
            s.hold(cell, told.held[cell]);
        }
    }

    private static void checkRoom(SkinBox s, int rise, long[] found) {
        Due.due(12, "room(" + rise + ", 0)", s.room(rise, 0), Long.bitCount(found[1]));
        Due.due(12, "room(" + rise + ", 1)", s.room(rise, 1), Long.bitCount(found[2]));
    }

    private static void checkLeast(SkinBox s, long[] found) {
        Due.due(10, "least()", s.least(), found[0]);
        Due.due(11, "film(0)", s.film(0), found[1]);
        Due.due(11, "film(1)", s.film(1), found[2]);
        for (int which = 0; which < 2; which++) {
            Due.due(9, "right(film(" + which + "))", s.right(s.film(which)), 1);
            Due.due(8, "all(film(" + which + "))", s.all(s.film(which)), found[0]);
        }
    }

    private static void tryAll(SkinBox s, ToldBox told) {
        long[] found = told.tryAll(0);
        checkLeast(s, found);
        checkRoom(s, 0, found);
        Due.due(13, "many()", s.many(), told.free() > 12 ? -2 : found[3]);
    }

    private static void fewFree(Random random) {
        for (int run = 0; run < 300; run++) {
            SkinBox s = new SkinBox();
            int x = 1 + random.nextInt(4);
            int y = 1 + random.nextInt(4);
            int z = 1 + random.nextInt(Math.min(4, 36 / (x * y)));
            ToldBox told = tell(s, random, x, y, z);
            holdSome(s, told, random, random.nextInt(run % 10 == 0 ? 14 : 12));
            for (int i = 0; i < 5; i++) {
                long set = random.nextLong() & told.every();
                Due.due(7, "skin(" + set + ")", s.skin(set), told.skin(set));
                Due.due(8, "all(" + set + ")", s.all(set), told.all(set, 0));
                Due.due(9, "right(" + set + ")", s.right(set), told.isRight(set) ? 1 : 0);
            }
            int[] rises = {random.nextInt(121) - 60, random.nextInt(7) - 3};
            for (int rise : rises) {
                checkRoom(s, rise, told.tryAll(rise));
                tryAll(s, told);
            }
        }
    }

    private static void fullBoxes(Random random) {
        int[][] sizes = {{4, 3, 3}, {3, 3, 4}, {3, 4, 3}, {2, 4, 4}, {3, 3, 3}, {4, 2, 4}, {2, 2, 4}, {3, 4, 1}, {4, 4, 2}};
        for (int run = 0; run < 180; run++) {
            int[] size = sizes[run % sizes.length];
            SkinBox s = new SkinBox();
            ToldBox told = tell(s, random, size[0], size[1], size[2]);
            holdSome(s, told, random, told.cells() - random.nextInt(6));
            int rise = random.nextInt(21) - 10;
            checkRoom(s, rise, told.byLayers(rise));
            checkLeast(s, told.byLayers(0));
        }
    }

    /** The two second writings are of one mind. */
    private static void writingsAgree(Random random) {
        for (int run = 0; run < 50; run++) {
            ToldBox told = tell(new SkinBox(), random, 2, 1 + random.nextInt(4), 1 + random.nextInt(4));
            holdSome(new SkinBox(), told, random, 11);
            int rise = random.nextInt(9) - 4;
            long[] one = told.tryAll(rise);
            long[] other = told.byLayers(rise);
            for (int i = 0; i < 3; i++) {
                Due.due(10, "the second writing's " + i, other[i], one[i]);
            }
        }
    }

    /** No change of the box is overlooked by what was found before. */
    private static void changes(Random random) {
        for (int run = 0; run < 20; run++) {
            SkinBox s = new SkinBox();
            ToldBox told = tell(s, random, 3, 3, 1);
            for (int turn = 0; turn < 25; turn++) {
                int cell = random.nextInt(9);
                int what = random.nextInt(7);
                int how = random.nextInt(3);
                int v = random.nextInt(11) - 5;
                int rule = what == 6 ? random.nextInt(3) : 1 + random.nextInt(5);
                switch (random.nextInt(3)) {
                    case 0:
                        Due.due(3, "hold", s.hold(cell, how), told.held[cell]);
                        told.held[cell] = how;
                        break;
                    case 1:
                        Due.due(4, "price", s.price(cell, v), told.price[cell]);
                        told.price[cell] = v;
                        break;
                    default:
                        Due.due(5, "set", s.set(what, rule), told.rules[what]);
                        told.rules[what] = rule;
                }
                tryAll(s, told);
                checkRoom(s, v, told.tryAll(v));
            }
        }
    }

    /** "How room grows as its price falls": at no price is the LOWEST less than the HIGHEST was at a higher one. */
    private static void roomGrows(Random random) {
        for (int run = 0; run < 20; run++) {
            SkinBox s = new SkinBox();
            ToldBox told = tell(s, random, 4, 3, 3);
            holdSome(s, told, random, 30);
            int before = 0;
            for (int v = 60; v >= -60; v--) {
                int low = s.room(v, 0);
                int high = s.room(v, 1);
                Due.due(12, "room grows to price " + v, low >= before && high >= low ? 1 : 0, 1);
                before = high;
            }
        }
    }

    public static void main(String[] args) {
        Random random = new Random(36);
        writingsAgree(random);
        fewFree(random);
        fullBoxes(random);
        changes(random);
        roomGrows(random);
        Due.end("least ones are as due");
    }
}
