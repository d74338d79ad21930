import java.util.Arrays;

/** THE BOX written a second time, from the document's words alone, with other ways to find what is LEAST. */
final class ToldBox {
    private static final long NEVER = 1L << 50;

    final int[] size = {3, 3, 1};
    final int[] rules = {1, 1, 1, 0, 0, 9, 0};
    int[] held = new int[9];
    int[] price = new int[9];

    void lay(int x, int y, int z) {
        size[0] = x;
        size[1] = y;
        size[2] = z;
        held = new int[x * y * z];
        price = new int[x * y * z];
    }

    int cells() {
        return size[0] * size[1] * size[2];
    }

    long every() {
        return (1L << cells()) - 1;
    }

    int free() {
        int free = 0;
        for (int how : held) {
            free += how == 0 ? 1 : 0;
        }
        return free;
    }

    int place(int cell, int way) {
        return way == 0 ? cell % size[0] : way == 1 ? cell / size[0] % size[1] : cell / (size[0] * size[1]);
    }

    int stride(int way) {
        return way == 0 ? 1 : way == 1 ? size[0] : size[0] * size[1];
    }

    /** The way along which two CELLS lie beside each other, or -1. */
    int wayBetween(int one, int other) {
        int apart = 0;
        int found = -1;
        for (int way = 0; way < 3; way++) {
            int steps = Math.abs(place(one, way) - place(other, way));
            apart += steps;
            found = steps > 0 ? way : found;
        }
        return apart == 1 ? found : -1;
    }

    int seam(int kind, int way, int place) {
        int plain = rules[way];
        int grained = plain + (place % 2 == 1 ? rules[4] : 0);
        int softened = Math.min(grained, rules[5]);
        return kind == 0 ? plain : kind == 1 ? grained : softened;
    }

    private int seam(int way, int place) {
        return seam(rules[6], way, place);
    }

    private int walls(int cell) {
        int walls = 0;
        for (int way = 0; way < 3; way++) {
            walls += place(cell, way) == 0 ? 1 : 0;
            walls += place(cell, way) == size[way] - 1 ? 1 : 0;
        }
        return walls * rules[3];
    }

    long skin(long set) {
        long skin = 0;
        for (int cell = 0; cell < cells(); cell++) {
            long in = set >> cell & 1;
            skin += in * walls(cell);
            for (int way = 0; way < 3; way++) {
                if (place(cell, way) + 1 < size[way] && (set >> cell + stride(way) & 1) != in) {
                    skin += seam(way, place(cell, way));
                }
            }
        }
        return skin;
    }

    long all(long set, int rise) {
        long all = skin(set);
        for (int cell = 0; cell < cells(); cell++) {
            all += (set >> cell & 1) * (price[cell] + rise);
        }
        return all;
    }

    boolean isRight(long set) {
        boolean right = true;
        for (int cell = 0; cell < cells(); cell++) {
            boolean in = (set >> cell & 1) == 1;
            right &= !(held[cell] == 1 && !in) && !(held[cell] == 2 && in);
        }
        return right;
    }

    /** LEAST, LOWEST, HIGHEST and MANY by trying all RIGHT SETS one by one. */
    long[] tryAll(int rise) {
        long base = 0;
        int free = 0;
        int[] open = new int[cells()];
        for (int cell = 0; cell < cells(); cell++) {
            if (held[cell] == 0) {
                open[free++] = cell;
            } else if (held[cell] == 1) {
                base |= 1L << cell;
            }
        }
        long[] found = {Long.MAX_VALUE, 0, 0, 0};
        for (int pick = 0; pick < 1 << free; pick++) {
            long set = base;
            for (int i = 0; i < free; i++) {
                set |= (long) (pick >> i & 1) << open[i];
            }
            long all = all(set, rise);
            if (all < found[0]) {
                found = new long[] {all, set, set, 0};
            }
            if (all == found[0]) {
                found[1] &= set;
                found[2] |= set;
                found[3]++;
            }
        }
        return found;
    }

    /**
     * LEAST, LOWEST and HIGHEST by going from CELL to CELL with the best SET for each shape of the
     * X * Y CELLS before. Of LEAST ones the LOWEST has the fewest CELLS, the HIGHEST the most:
     * a small toll or gift for each CELL singles it out.
     */
    long[] byLayers(int rise) {
        long[] low = bestByLayers(rise, 1);
        long[] high = bestByLayers(rise, -1);
        return new long[] {all(low[1], rise), low[1], high[1]};
    }

    private long[] bestByLayers(int rise, int toll) {
        int shapes = 1 << size[0] * size[1];
        long[] best = new long[shapes];
        long[] sets = new long[shapes];
        Arrays.fill(best, NEVER);
        best[0] = 0;
        for (int cell = 0; cell < cells(); cell++) {
            long[] next = new long[shapes];
            long[] nextSets = new long[shapes];
            Arrays.fill(next, NEVER);
            for (int shape = 0; shape < shapes; shape++) {
                for (int in = 0; in < 2 && best[shape] < NEVER; in++) {
                    if (held[cell] == (in == 1 ? 2 : 1)) {
                        continue;
                    }
                    long value = best[shape] + 64 * growth(cell, shape, in, rise) + in * toll;
                    int after = (shape << 1 | in) & shapes - 1;
                    if (value < next[after]) {
                        next[after] = value;
                        nextSets[after] = sets[shape] | (long) in << cell;
                    }
                }
            }
            best = next;
            sets = nextSets;
        }
        int first = 0;
        for (int shape = 0; shape < shapes; shape++) {
            first = best[shape] < best[first] ? shape : first;
        }
        return new long[] {best[first], sets[first]};
    }

    private long growth(int cell, int shape, int in, int rise) {
        long growth = in * (price[cell] + rise + walls(cell));
        for (int way = 0; way < 3; way++) {
            int place = place(cell, way);
            if (place > 0 && (shape >> stride(way) - 1 & 1) != in) {
                growth += seam(way, place - 1);
            }
        }
        return growth;
    }
}
