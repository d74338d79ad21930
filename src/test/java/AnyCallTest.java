import java.util.Random;

/**
 * Any calls with any numbers in any state, as many as an object may be used for: none throws, and each
 * answers what a second writing of the document says, so one that is refused has changed nothing.
 */
public final class AnyCallTest {
    private static final int MOST_CALLS = 512;
    private static final int[] FAR = {Integer.MIN_VALUE, Integer.MIN_VALUE + 1, Integer.MAX_VALUE, 1 << 16, 1 << 30,
        -1, 256, 1000000, -1000000, 64, 63};
    // A name stands here as often as it shall be called, so that boxes and nets are used for a while.
    private static final String[] NAMES = ("box net hold hold hold hold hold price price price price price set set set "
            + "cost cost skin all right least film film room room many many lift lift lift lift lift lift pin pin "
            + "height drawn slack rounds rounds count count trace").split(" ");

    /** Mostly from the numbers that are taken, else at their ends, one beyond them, or far away. */
    private static int near(Random random, int low, int high) {
        int turn = random.nextInt(100);
        if (turn < 90) {
            return low + random.nextInt(high - low + 1);
        }
        if (turn < 98) {
            int[] ends = {low, high, low - 1, high + 1};
            return ends[turn % 4];
        }
        return FAR[random.nextInt(FAR.length)];
    }

    private static long set(Random random, int cells) {
        long every = (1L << cells) - 1;
        long[] ends = {0, every, every + 1, -1, Long.MIN_VALUE, Long.MAX_VALUE, -every, random.nextLong()};
        return random.nextInt(10) == 0 ? ends[random.nextInt(ends.length)] : random.nextLong() & every;
    }

    private static Call anyCall(Random random, Told told) {
        String name = NAMES[random.nextInt(NAMES.length)];
        int cell = near(random, 0, told.cells() - 1);
        int x = near(random, 0, told.wide() - 1);
        int y = near(random, 0, told.high() - 1);
        switch (name) {
            case "box": return Call.of(name, near(random, 1, 4), near(random, 1, 4), near(random, 1, 4));
            case "hold": return Call.of(name, cell, near(random, 0, 2));
            case "price": return Call.of(name, cell, near(random, -20, 20));
            case "set": return Call.of(name, near(random, 0, 6), near(random, 0, 9));
            case "cost":
                // Products of two small numbers: a layer has up to 4 x 4 CELLS.
                int apart = near(random, -4, 4) * (1 + random.nextInt(4));
                return Call.of(name, near(random, 0, 2), cell, cell + apart);
            case "skin":
            case "all":
            case "right": return Call.ofSet(name, set(random, told.cells()));
            case "film": return Call.of(name, near(random, 0, 1));
            case "room": return Call.of(name, near(random, -60, 60) / (1 + random.nextInt(8)), near(random, 0, 1));
            case "net": return Call.of(name, near(random, 2, 8), near(random, 2, 8));
            case "lift": return Call.of(name, x, y, near(random, -100, 100));
            case "pin": return Call.ofPin(x, y, random.nextBoolean());
            case "height": return Call.of(name, x, y);
            case "rounds": return Call.of(name, near(random, 1, 50) / (1 + random.nextInt(40)));
            case "count": return Call.of(name, near(random, 0, 7));
            default: return Call.of(name);
        }
    }

    public static void main(String[] args) {
        Random random = new Random(22);
        for (int run = 0; run < 120; run++) {
            SkinBox s = new SkinBox();
            Told told = new Told();
            for (int turn = 0; turn < MOST_CALLS; turn++) {
                Call call = anyCall(random, told);
                Due.due(call.promise(), call + " in run " + run + ", call " + turn, call.ask(s), told.call(call));
            }
        }
        Due.end("any calls answer as due");
    }
}
