import java.util.Arrays;
import java.util.Random;

/** Any calls with any numbers in any state: none throws, and one that is refused changes nothing. */
public final class AnyCallTest {
    private static final int[] NUMBERS = {0, 1, 2, 3, 4, 5, 6, 7, 8, 9, 10, 12, 35, 36, 37, 50, 51, 60, 61, 63, 64,
        100, 101, -1, -2, -20, -21, -60, -61, -100, -101, 1 << 16, 1 << 30, Integer.MAX_VALUE, Integer.MIN_VALUE};
    private static int wrong = 0;

    private static int number(Random random) {
        return random.nextInt(3) == 0 ? NUMBERS[random.nextInt(NUMBERS.length)] : random.nextInt(5);
    }

    private static long set(Random random) {
        long bits = random.nextLong();
        return random.nextInt(4) == 0 ? bits : bits >>> 28 + random.nextInt(36);
    }

    private static long call(SkinBox s, int which, int a, int b, int c, long set) {
        switch (which) {
            case 0: return s.box(a, b, c);
            case 1: return s.hold(a, b);
            case 2: return s.price(a, b);
            case 3: return s.set(a, b);
            case 4: return s.cost(a, b, c);
            case 5: return s.skin(set);
            case 6: return s.all(set);
            case 7: return s.right(set);
            case 8: return s.film(a);
            case 9: return s.room(a, b);
            case 10: return s.many();
            case 11: return s.net(a, b);
            case 12: return s.lift(a, b, c);
            case 13: return s.pin(a, b, c > 0);
            case 14: return s.height(a, b);
            case 15: return s.rounds(a);
            default: return s.count(a);
        }
    }

    private static boolean isRefusal(int which, long answer) {
        boolean bySign = which == 2 || which == 6 || which == 12 || which == 14;
        return bySign ? answer == SkinBox.NO : answer < 0;
    }

    private static long[] state(SkinBox s) {
        long[] state = new long[18 + 64];
        for (int what = 0; what < 8; what++) {
            state[what] = s.count(what);
        }
        long every = (1L << state[0] * state[1] * state[2]) - 1;
        state[8] = s.least();
        state[9] = s.film(0);
        state[10] = s.film(1);
        state[11] = s.drawn();
        state[12] = s.slack();
        state[13] = s.trace();
        state[14] = s.all(every);
        state[15] = s.all(every & 0x555555555L);
        state[16] = s.skin(every & 0x333333333L);
        state[17] = s.room(-3, 1);
        for (int i = 0; i < 64; i++) {
            state[18 + i] = s.height(i % 8, i / 8);
        }
        return state;
    }

    public static void main(String[] args) {
        Random random = new Random(22);
        for (int run = 0; run < 300; run++) {
            SkinBox s = new SkinBox();
            for (int turn = 0; turn < 200; turn++) {
                int which = random.nextInt(17);
                int a = number(random);
                int b = number(random);
                int c = number(random);
                long set = set(random);
                long[] before = state(s);
                long answer = call(s, which, a, b, c, set);
                if (isRefusal(which, answer) && !Arrays.equals(before, state(s))) {
                    wrong++;
                    System.out.println("call " + which + " with " + a + ", " + b + ", " + c + " was refused but changed something");
                }
            }
        }
        System.out.println(wrong == 0 ? "any calls are borne" : wrong + " refusals changed something");
        if (wrong != 0) {
            System.exit(1);
        }
    }
}
