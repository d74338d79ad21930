import java.util.Arrays;

/**
 * Least skins in a box of cells, and nets of heights drawn tight from their rims.
 * The document's words (CELL, SEAM, SKIN, LOWEST, ..) are used as it uses them.
 */
public final class SkinBox {
    public static final int BAD = -1, STATE = -2, FULL = -3, NONE = -9;
    public static final int NO = -1000000;

    private static final int WAYS = 3;
    private static final int SIDES = 6;
    private static final int MOST_SIDE = 4;
    private static final int MOST_CELLS = 36;
    private static final int MOST_PRICE = 20;
    private static final int MOST_RISE = 60;
    private static final int MOST_FREE = 12;
    private static final int OUTSIDE = -1;

    private static final int FREE = 0, IN = 1, OUT = 2;

    private static final int WALLS = 3, GRAIN = 4, SOFT = 5, KIND = 6;
    private static final int[] LOWEST_RULE = {0, 0, 0, 0, 0, 1, 0};
    private static final int[] HIGHEST_RULE = {9, 9, 9, 9, 9, 9, 2};

    private static final int GRAINED = 1, SOFTENED = 2;
    // A KIND asks its own body and those of all KINDS over it: 1, 10 + 1, 100 + 10 + 1.
    private static final int[] MARKS = {1, 11, 111};

    private static final int LEAST_NET = 2, MOST_NET = 8;
    private static final int MOST_HEIGHT = 100;
    private static final int MOST_ROUNDS = 50;

    private final Flow flow = new Flow();
    private final Cells cells = flow.cells;
    private final Points points = new Points();
    private long asked = 0;

    public SkinBox() {
    }

    // ---- the box

    public int box(int x, int y, int z) {
        if (!within(x, 1, MOST_SIDE) || !within(y, 1, MOST_SIDE) || !within(z, 1, MOST_SIDE)
                || x * y * z > MOST_CELLS) {
            return BAD;
        }
        cells.lay(x, y, z);
        flow.forget();
        return cells.size;
    }

    public int hold(int cell, int how) {
        if (!cells.has(cell) || !within(how, FREE, OUT)) {
            return BAD;
        }
        int was = cells.held[cell];
        cells.held[cell] = how;
        flow.forget();
        return was;
    }

    public int price(int cell, int v) {
        if (!cells.has(cell) || !within(v, -MOST_PRICE, MOST_PRICE)) {
            return NO;
        }
        int was = cells.prices[cell];
        cells.prices[cell] = v;
        flow.forget();
        return was;
    }

    public int set(int what, int v) {
        if (!within(what, 0, KIND) || !within(v, LOWEST_RULE[what], HIGHEST_RULE[what])) {
            return BAD;
        }
        int was = cells.rules[what];
        cells.rules[what] = v;
        flow.forget();
        return was;
    }

    public int cost(int kind, int one, int other) {
        if (!within(kind, 0, SOFTENED) || !cells.has(one) || !cells.has(other)) {
            return BAD;
        }
        int side = cells.sideTowards(one, other);
        if (side == OUTSIDE) {
            return BAD;
        }
        asked += MARKS[kind];
        return cells.seamCost(kind, one, side);
    }

    public long skin(long set) {
        return cells.isSet(set) ? cells.skinOf(set) : BAD;
    }

    public long all(long set) {
        return cells.isSet(set) ? cells.skinOf(set) + cells.pricesOf(set) : NO;
    }

    public int right(long set) {
        if (!cells.isSet(set)) {
            return BAD;
        }
        return cells.isRight(set) ? 1 : 0;
    }

    public long least() {
        flow.settle(0);
        return flow.amount;
    }

    public long film(int which) {
        if (!within(which, 0, 1)) {
            return BAD;
        }
        flow.settle(0);
        return which == 0 ? flow.lowest : flow.highest;
    }

    public int room(int v, int which) {
        if (!within(v, -MOST_RISE, MOST_RISE) || !within(which, 0, 1)) {
            return BAD;
        }
        flow.settle(v);
        return Long.bitCount(which == 0 ? flow.lowest : flow.highest);
    }

    public int many() {
        if (cells.freeCells() > MOST_FREE) {
            return STATE;
        }
        flow.settle(0);
        return flow.leastSets();
    }

    // ---- the net

    public int net(int w, int h) {
        if (!within(w, LEAST_NET, MOST_NET) || !within(h, LEAST_NET, MOST_NET)) {
            return BAD;
        }
        points.spread(w, h);
        return w * h - points.pins();
    }

    public int lift(int x, int y, int v) {
        if (!points.has(x, y) || !within(v, -MOST_HEIGHT, MOST_HEIGHT)) {
            return NO;
        }
        int point = points.at(x, y);
        int was = points.heights[point];
        points.heights[point] = v;
        return was;
    }

    public int pin(int x, int y, boolean is) {
        if (!points.has(x, y)) {
            return BAD;
        }
        int point = points.at(x, y);
        int was = points.pinned[point] ? 1 : 0;
        points.pinned[point] = is;
        return was;
    }

    public int height(int x, int y) {
        return points.has(x, y) ? points.heights[points.at(x, y)] : NO;
    }

    public int drawn() {
        return points.sumOfDifferences();
    }

    public int slack() {
        return points.sumOfChanges();
    }

    public int rounds(int n) {
        if (!within(n, 1, MOST_ROUNDS)) {
            return BAD;
        }
        int done = 0;
        while (done < n && !points.isAtRest()) {
            points.stepAtEach();
            done++;
        }
        return done;
    }

    public int count(int what) {
        switch (what) {
            case 0:
            case 1:
            case 2:
                return cells.sides[what];
            case 3:
                return cells.freeCells();
            case 4:
                return points.wide;
            case 5:
                return points.high;
            case 6:
                return points.pins();
            case 7:
                return points.isAtRest() ? 1 : 0;
            default:
                return BAD;
        }
    }

    public long trace() {
        return asked;
    }

    private static boolean within(int v, int from, int to) {
        return v >= from && v <= to;
    }

    /** The CELLS of THE BOX: how they lie, how they are HELD, and what they cost. */
    private static final class Cells {
        final int[] sides = new int[WAYS];
        final int[] held = new int[MOST_CELLS];
        final int[] prices = new int[MOST_CELLS];
        // What set() rules, by its numbers: three WEIGHTS, WALLS, GRAIN, SOFT, KIND.
        final int[] rules = {1, 1, 1, 0, 0, 9, 0};
        // By CELL and way.
        final int[] places = new int[MOST_CELLS * WAYS];
        // By CELL and side (2 * way is onward, 2 * way + 1 is back, so side ^ 1 is the other end).
        final int[] beyond = new int[MOST_CELLS * SIDES];
        int size = 0;

        Cells() {
            lay(3, 3, 1);
        }

        void lay(int x, int y, int z) {
            sides[0] = x;
            sides[1] = y;
            sides[2] = z;
            size = x * y * z;
            Arrays.fill(held, FREE);
            Arrays.fill(prices, 0);
            int cell = 0;
            for (int c = 0; c < z; c++) {
                for (int b = 0; b < y; b++) {
                    for (int a = 0; a < x; a++) {
                        layAlong(0, cell, a, 1);
                        layAlong(1, cell, b, x);
                        layAlong(2, cell, c, x * y);
                        cell++;
                    }
                }
            }
        }

        private void layAlong(int way, int cell, int place, int stride) {
            int onward = cell * SIDES + 2 * way;
            places[cell * WAYS + way] = place;
            beyond[onward] = place + 1 < sides[way] ? cell + stride : OUTSIDE;
            beyond[onward + 1] = place > 0 ? cell - stride : OUTSIDE;
        }

        boolean has(int cell) {
            return cell >= 0 && cell < size;
        }

        long every() {
            return (1L << size) - 1;
        }

        boolean isSet(long set) {
            return (set & ~every()) == 0;
        }

        int freeCells() {
            int free = 0;
            for (int cell = 0; cell < size; cell++) {
                if (held[cell] == FREE) {
                    free++;
                }
            }
            return free;
        }

        int sideTowards(int one, int other) {
            for (int side = 0; side < SIDES; side++) {
                if (beyond[one * SIDES + side] == other) {
                    return side;
                }
            }
            return OUTSIDE;
        }

        int seamCost(int kind, int cell, int side) {
            int way = side >> 1;
            // Seen from the greater CELL, the place that counts is the one before its own.
            int place = places[cell * WAYS + way] - (side & 1);
            int cost = rules[way];
            if (kind >= GRAINED && (place & 1) == 1) {
                cost += rules[GRAIN];
            }
            return kind >= SOFTENED ? Math.min(cost, rules[SOFT]) : cost;
        }

        /** What a CELL costs in every SET that has it: its PRICE, and WALLS at the outside. */
        int ownCost(int cell) {
            int cost = prices[cell];
            for (int side = 0; side < SIDES; side++) {
                if (beyond[cell * SIDES + side] == OUTSIDE) {
                    cost += rules[WALLS];
                }
            }
            return cost;
        }

        /** By how much the SEAMS of a SET without this CELL grow when the CELL joins it. */
        int seamsGrowth(long set, int cell) {
            int growth = 0;
            for (int side = 0; side < SIDES; side++) {
                int other = beyond[cell * SIDES + side];
                if (other != OUTSIDE) {
                    int seam = seamCost(rules[KIND], cell, side);
                    growth += holds(set, other) ? -seam : seam;
                }
            }
            return growth;
        }

        long skinOf(long set) {
            long skin = 0;
            for (int cell = 0; cell < size; cell++) {
                if (holds(set, cell)) {
                    skin += skinOfCell(set, cell);
                }
            }
            return skin;
        }

        private int skinOfCell(long set, int cell) {
            int skin = 0;
            for (int side = 0; side < SIDES; side++) {
                int other = beyond[cell * SIDES + side];
                if (other == OUTSIDE) {
                    skin += rules[WALLS];
                } else if (!holds(set, other)) {
                    skin += seamCost(rules[KIND], cell, side);
                }
            }
            return skin;
        }

        long pricesOf(long set) {
            long sum = 0;
            for (int cell = 0; cell < size; cell++) {
                if (holds(set, cell)) {
                    sum += prices[cell];
                }
            }
            return sum;
        }

        boolean isRight(long set) {
            for (int cell = 0; cell < size; cell++) {
                if (held[cell] == (holds(set, cell) ? OUT : IN)) {
                    return false;
                }
            }
            return true;
        }

        static boolean holds(long set, int cell) {
            return (set >> cell & 1) == 1;
        }
    }

    /**
     * LEAST as the greatest flow: it springs up in CELLS that cost less within a SET, drains away
     * in those that cost more, and passes the SEAMS between, no more than their COST each way.
     * What it fills to the brim is a SKIN, and no SKIN can cost less than what flows through it.
     */
    private static final class Flow {
        // More than all finite springs, drains and SEAMS of a box together.
        private static final int ENDLESS = 1000000;
        private static final int MOST_PUSHES = 1000000;
        private static final int NOWHERE = -1;
        private static final int UNSEEN = -1;
        private static final int SPRING = SIDES;

        final Cells cells = new Cells();
        private final int[] springs = new int[MOST_CELLS];
        private final int[] drains = new int[MOST_CELLS];
        // By CELL and side: how much more may pass from the CELL to the one beyond.
        private final int[] passes = new int[MOST_CELLS * SIDES];
        private final int[] cameFrom = new int[MOST_CELLS];
        private final int[] cameBy = new int[MOST_CELLS];
        private final int[] queue = new int[MOST_CELLS];
        private int queued = 0;
        private boolean settled = false;
        private int settledRise = 0;
        long amount = 0;
        long lowest = 0;
        long highest = 0;

        void forget() {
            settled = false;
        }

        /** Finds LEAST, LOWEST and HIGHEST with the rise added to each PRICE. */
        void settle(int rise) {
            if (settled && settledRise == rise) {
                return;
            }
            open(rise);
            int end = search();
            for (int push = 0; push < MOST_PUSHES && end != NOWHERE; push++) {
                pushTo(end);
                end = search();
            }
            lowest = seen();
            searchBack();
            highest = cells.every() & ~seen();
            settled = true;
            settledRise = rise;
        }

        private void open(int rise) {
            amount = 0;
            for (int cell = 0; cell < cells.size; cell++) {
                openCell(cell, cells.ownCost(cell) + rise);
                for (int side = 0; side < SIDES; side++) {
                    passes[cell * SIDES + side] = cells.beyond[cell * SIDES + side] == OUTSIDE
                            ? 0 : cells.seamCost(cells.rules[KIND], cell, side);
                }
            }
        }

        private void openCell(int cell, int own) {
            springs[cell] = 0;
            drains[cell] = 0;
            if (cells.held[cell] == OUT) {
                drains[cell] = ENDLESS;
            } else if (cells.held[cell] == IN) {
                springs[cell] = ENDLESS;
                amount += own;
            } else if (own < 0) {
                // Count the gain at once; flow out of the spring takes back what must be given up.
                springs[cell] = -own;
                amount += own;
            } else {
                drains[cell] = own;
            }
        }

        /** Goes from the springs wherever more may pass, to the first CELL that still drains. */
        private int search() {
            startAt(springs);
            for (int head = 0; head < MOST_CELLS && head < queued; head++) {
                int cell = queue[head];
                if (drains[cell] > 0) {
                    return cell;
                }
                for (int side = 0; side < SIDES; side++) {
                    int other = cells.beyond[cell * SIDES + side];
                    if (other != OUTSIDE && cameBy[other] == UNSEEN && passes[cell * SIDES + side] > 0) {
                        cameFrom[other] = cell;
                        see(other, side);
                    }
                }
            }
            return NOWHERE;
        }

        /** Sees all CELLS from which more may still pass to one that drains. */
        private void searchBack() {
            startAt(drains);
            for (int head = 0; head < MOST_CELLS && head < queued; head++) {
                int cell = queue[head];
                for (int side = 0; side < SIDES; side++) {
                    int other = cells.beyond[cell * SIDES + side];
                    if (other != OUTSIDE && cameBy[other] == UNSEEN && passes[other * SIDES + (side ^ 1)] > 0) {
                        see(other, side);
                    }
                }
            }
        }

        private void startAt(int[] open) {
            queued = 0;
            for (int cell = 0; cell < cells.size; cell++) {
                cameBy[cell] = UNSEEN;
                if (open[cell] > 0) {
                    see(cell, SPRING);
                }
            }
        }

        private void see(int cell, int by) {
            cameBy[cell] = by;
            if (queued < MOST_CELLS) {
                queue[queued++] = cell;
            }
        }

        private long seen() {
            long set = 0;
            for (int cell = 0; cell < cells.size; cell++) {
                if (cameBy[cell] != UNSEEN) {
                    set |= 1L << cell;
                }
            }
            return set;
        }

        private void pushTo(int end) {
            int cell = end;
            int much = drains[end];
            for (int k = 0; k < MOST_CELLS && cameBy[cell] != SPRING; k++) {
                much = Math.min(much, passes[cameFrom[cell] * SIDES + cameBy[cell]]);
                cell = cameFrom[cell];
            }
            much = Math.min(much, springs[cell]);
            springs[cell] -= much;
            drains[end] -= much;
            amount += much;
            cell = end;
            for (int k = 0; k < MOST_CELLS && cameBy[cell] != SPRING; k++) {
                passes[cameFrom[cell] * SIDES + cameBy[cell]] -= much;
                passes[cell * SIDES + (cameBy[cell] ^ 1)] += much;
                cell = cameFrom[cell];
            }
        }

        /** How many SETS have LEAST, once settled without a rise: all lie from LOWEST to HIGHEST. */
        int leastSets() {
            int open = queueOpen();
            long set = lowest;
            int above = 0;
            int sets = 1;
            // Gray's order: each SET is the one before it with one CELL more or less.
            for (int turn = 1; turn < 1 << open; turn++) {
                int cell = queue[Integer.bitCount((turn & -turn) - 1)];
                int growth = cells.ownCost(cell) + cells.seamsGrowth(set, cell);
                above += Cells.holds(set, cell) ? -growth : growth;
                set ^= 1L << cell;
                if (above == 0) {
                    sets++;
                }
            }
            return sets;
        }

        private int queueOpen() {
            int open = 0;
            for (int cell = 0; cell < cells.size; cell++) {
                if (Cells.holds(highest & ~lowest, cell) && open < MOST_FREE) {
                    queue[open++] = cell;
                }
            }
            return open;
        }
    }

    /** THE NET: POINTS by columns and rows, their heights, and which are PINNED. */
    private static final class Points {
        final int[] heights = new int[MOST_NET * MOST_NET];
        final boolean[] pinned = new boolean[MOST_NET * MOST_NET];
        private final int[] near = new int[4];
        int wide = 0;
        int high = 0;

        Points() {
            spread(4, 4);
        }

        void spread(int w, int h) {
            wide = w;
            high = h;
            Arrays.fill(heights, 0);
            for (int y = 0; y < h; y++) {
                for (int x = 0; x < w; x++) {
                    pinned[at(x, y)] = x == 0 || y == 0 || x == w - 1 || y == h - 1;
                }
            }
        }

        boolean has(int x, int y) {
            return x >= 0 && x < wide && y >= 0 && y < high;
        }

        int at(int x, int y) {
            return y * MOST_NET + x;
        }

        int pins() {
            int pins = 0;
            for (int y = 0; y < high; y++) {
                for (int x = 0; x < wide; x++) {
                    if (pinned[at(x, y)]) {
                        pins++;
                    }
                }
            }
            return pins;
        }

        int sumOfDifferences() {
            int sum = 0;
            for (int y = 0; y < high; y++) {
                for (int x = 0; x < wide; x++) {
                    sum += difference(x, y, x + 1, y) + difference(x, y, x, y + 1);
                }
            }
            return sum;
        }

        private int difference(int x, int y, int besideX, int besideY) {
            return has(besideX, besideY) ? Math.abs(heights[at(x, y)] - heights[at(besideX, besideY)]) : 0;
        }

        int sumOfChanges() {
            int sum = 0;
            for (int y = 0; y < high; y++) {
                for (int x = 0; x < wide; x++) {
                    sum += Math.abs(stepped(x, y) - heights[at(x, y)]);
                }
            }
            return sum;
        }

        boolean isAtRest() {
            return sumOfChanges() == 0;
        }

        void stepAtEach() {
            for (int y = 0; y < high; y++) {
                for (int x = 0; x < wide; x++) {
                    heights[at(x, y)] = stepped(x, y);
                }
            }
        }

        /** The height that a STEP leaves at a POINT; a PINNED one keeps its own. */
        private int stepped(int x, int y) {
            int own = heights[at(x, y)];
            if (pinned[at(x, y)]) {
                return own;
            }
            int many = putInOrder(x - 1, y, 0);
            many = putInOrder(x + 1, y, many);
            many = putInOrder(x, y - 1, many);
            many = putInOrder(x, y + 1, many);
            // A net is two wide and two high at least, so there are two neighbours at least.
            int lower = near[(many - 1) / 2];
            int upper = near[many / 2];
            return Math.max(lower, Math.min(upper, own));
        }

        /** Puts a neighbour's height, if there is such a POINT, among those in order: how many there are then. */
        private int putInOrder(int x, int y, int many) {
            if (!has(x, y)) {
                return many;
            }
            int height = heights[at(x, y)];
            int place = many;
            while (place > 0 && near[place - 1] > height) {
                near[place] = near[place - 1];
                place--;
            }
            near[place] = height;
            return many + 1;
        }
    }
}
