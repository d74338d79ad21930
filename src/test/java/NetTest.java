import java.util.Random;

/** Promises 14 to 21: by hand at the edges, and against a plain second writing of the net in long runs. */
public final class NetTest {
    private static void nets() {
        SkinBox s = new SkinBox();
        for (int w = 2; w <= 8; w++) {
            for (int h = 2; h <= 8; h++) {
                Due.due(14, "net(" + w + ", " + h + ")", s.net(w, h), (w - 2) * (h - 2));
                Due.due(21, "count(4)", s.count(4), w);
                Due.due(21, "count(5)", s.count(5), h);
                Due.due(21, "count(6)", s.count(6), w * h - (w - 2) * (h - 2));
                Due.due(21, "count(7)", s.count(7), 1);
            }
        }
        s.net(5, 3);
        s.lift(4, 2, 9);
        s.pin(4, 2, false);
        int[][] wrongs = {{1, 4}, {4, 1}, {9, 4}, {4, 9}, {0, 0}, {-4, -4}, {Integer.MAX_VALUE, 4},
            {4, Integer.MIN_VALUE}};
        for (int[] v : wrongs) {
            Due.due(14, "net(" + v[0] + ", " + v[1] + ")", s.net(v[0], v[1]), -1);
        }
        Due.due(14, "height(4, 2) after BAD", s.height(4, 2), 9);
        Due.due(14, "count(6) after BAD", s.count(6), 11);
        Due.due(14, "net(5, 3) anew", s.net(5, 3), 3);
        Due.due(14, "height(4, 2) anew", s.height(4, 2), 0);
        Due.due(14, "pin(4, 2, true) anew", s.pin(4, 2, true), 1);
        Due.due(14, "pin(1, 1, true) anew", s.pin(1, 1, true), 0);
        s.net(8, 8);
        s.lift(7, 7, 50);
        s.net(2, 2);
        s.net(8, 8);
        Due.due(14, "height(7, 7), all 0", s.height(7, 7), 0);
    }

    private static void netLeavesTheBox() {
        SkinBox s = new SkinBox();
        s.box(2, 2, 2);
        s.hold(3, 1);
        s.price(4, 5);
        s.net(3, 3);
        Due.due(14, "count(3) after net()", s.count(3), 7);
        Due.due(14, "price(4, 5) after net()", s.price(4, 5), 5);
        s.lift(1, 1, 8);
        s.box(3, 3, 3);
        Due.due(2, "height(1, 1) after box()", s.height(1, 1), 8);
        Due.due(2, "count(4) after box()", s.count(4), 3);
    }

    private static void liftsAndPins() {
        SkinBox s = new SkinBox();
        Due.due(15, "lift(3, 0, 100)", s.lift(3, 0, 100), 0);
        Due.due(15, "lift(3, 0, -100)", s.lift(3, 0, -100), 100);
        Due.due(15, "lift(0, 3, 5)", s.lift(0, 3, 5), 0);
        Due.due(17, "height(3, 0)", s.height(3, 0), -100);
        Due.due(17, "height(0, 3)", s.height(0, 3), 5);
        int[][] places = {{-1, 0}, {0, -1}, {4, 0}, {0, 4}, {-1, 1}, {4, -1}, {Integer.MAX_VALUE, 0},
            {0, Integer.MIN_VALUE}};
        for (int[] p : places) {
            Due.due(15, "lift(" + p[0] + ", " + p[1] + ", 1)", s.lift(p[0], p[1], 1), -1000000);
            Due.due(16, "pin(" + p[0] + ", " + p[1] + ", false)", s.pin(p[0], p[1], false), -1);
            Due.due(17, "height(" + p[0] + ", " + p[1] + ")", s.height(p[0], p[1]), -1000000);
        }
        int[] heights = {101, -101, Integer.MAX_VALUE, Integer.MIN_VALUE};
        for (int v : heights) {
            Due.due(15, "lift(3, 0, " + v + ")", s.lift(3, 0, v), -1000000);
        }
        Due.due(15, "height(3, 0) after NO", s.height(3, 0), -100);
        Due.due(16, "count(6) after BAD", s.count(6), 12);
        Due.due(16, "pin(1, 2, true)", s.pin(1, 2, true), 0);
        Due.due(16, "pin(1, 2, true) again", s.pin(1, 2, true), 1);
        Due.due(16, "pin(1, 2, false)", s.pin(1, 2, false), 1);
        Due.due(16, "pin(1, 2, false) again", s.pin(1, 2, false), 0);
        Due.due(16, "pin(3, 0, false)", s.pin(3, 0, false), 1);
        Due.due(16, "count(6)", s.count(6), 11);
        Due.due(16, "pinned ones can be lifted", s.lift(0, 0, 1), 0);
    }

    private static void steps() {
        SkinBox s = new SkinBox();
        s.net(3, 3);
        s.lift(1, 0, 1);
        s.lift(0, 1, 4);
        s.lift(2, 1, 6);
        s.lift(1, 2, 9);
        Due.due(19, "slack(), below the middle", s.slack(), 4);
        Due.due(20, "rounds(50)", s.rounds(50), 1);
        Due.due(17, "height(1, 1), the lower", s.height(1, 1), 4);
        s.lift(1, 1, 5);
        Due.due(19, "slack(), in the middle", s.slack(), 0);
        Due.due(21, "count(7), in the middle", s.count(7), 1);
        s.lift(1, 1, 10);
        Due.due(19, "slack(), above the middle", s.slack(), 4);
        Due.due(21, "count(7), above", s.count(7), 0);
        Due.due(20, "rounds(1)", s.rounds(1), 1);
        Due.due(17, "height(1, 1), the upper", s.height(1, 1), 6);
        Due.due(18, "drawn()", s.drawn(), 2 * (1 + 4 + 6 + 9) + 5 + 2 + 0 + 3);
        s.lift(1, 1, 0);
        s.pin(1, 1, true);
        s.pin(1, 0, false);
        Due.due(19, "slack(), three neighbours", s.slack(), 1);
        Due.due(20, "rounds(2), three neighbours", s.rounds(2), 1);
        Due.due(17, "height(1, 0), the middle of three", s.height(1, 0), 0);
        s.pin(0, 0, false);
        s.lift(0, 0, 20);
        Due.due(19, "slack(), as they all are now", s.slack(), 16);
        int[] wrongs = {0, 51, -1, Integer.MIN_VALUE, Integer.MAX_VALUE};
        for (int n : wrongs) {
            Due.due(20, "rounds(" + n + ")", s.rounds(n), -1);
        }
        Due.due(20, "height(0, 0) after BAD", s.height(0, 0), 20);
    }

    private static void counts() {
        SkinBox s = new SkinBox();
        s.box(2, 3, 4);
        s.hold(7, 1);
        s.hold(8, 2);
        s.net(7, 5);
        int[] dues = {2, 3, 4, 22, 7, 5, 20, 1};
        for (int what = 0; what < dues.length; what++) {
            Due.due(21, "count(" + what + ")", s.count(what), dues[what]);
        }
        int[] wrongs = {-1, 8, Integer.MIN_VALUE, Integer.MAX_VALUE};
        for (int what : wrongs) {
            Due.due(21, "count(" + what + ")", s.count(what), -1);
        }
    }

    private static void compare(SkinBox s, ToldNet net, int w, int h) {
        Due.due(18, "drawn()", s.drawn(), net.drawn());
        Due.due(19, "slack()", s.slack(), net.slack());
        Due.due(21, "count(7)", s.count(7), net.slack() == 0 ? 1 : 0);
        for (int y = 0; y < h; y++) {
            for (int x = 0; x < w; x++) {
                Due.due(17, "height(" + x + ", " + y + ")", s.height(x, y), net.height[y][x]);
            }
        }
    }

    private static void longRuns() {
        Random random = new Random(20);
        for (int run = 0; run < 400; run++) {
            SkinBox s = new SkinBox();
            int w = 2 + random.nextInt(7);
            int h = 2 + random.nextInt(7);
            int span = run % 2 == 0 ? 201 : 5;
            int unpinned = random.nextInt(5);
            s.net(w, h);
            ToldNet net = new ToldNet(w, h);
            for (int y = 0; y < h; y++) {
                for (int x = 0; x < w; x++) {
                    net.height[y][x] = random.nextInt(span) - span / 2;
                    net.pinned[y][x] = random.nextInt(4) >= unpinned;
                    s.lift(x, y, net.height[y][x]);
                    s.pin(x, y, net.pinned[y][x]);
                }
            }
            compare(s, net, w, h);
            int[] turns = {1, 2, 50, 1};
            for (int n : turns) {
                Due.due(20, "rounds(" + n + ")", s.rounds(n), net.rounds(n));
                compare(s, net, w, h);
            }
        }
    }

    public static void main(String[] args) {
        nets();
        netLeavesTheBox();
        liftsAndPins();
        steps();
        counts();
        longRuns();
        Due.end("the net answers as due");
    }
}
