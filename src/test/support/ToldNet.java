import java.util.Arrays;

/** THE NET written a second time, from the document's words alone. */
final class ToldNet {
    final int[][] height;
    final boolean[][] pinned;

    ToldNet(int w, int h) {
        height = new int[h][w];
        pinned = new boolean[h][w];
        for (int y = 0; y < h; y++) {
            for (int x = 0; x < w; x++) {
                pinned[y][x] = x == 0 || y == 0 || x == w - 1 || y == h - 1;
            }
        }
    }

    int wide() {
        return height[0].length;
    }

    int high() {
        return height.length;
    }

    boolean has(int x, int y) {
        return y >= 0 && y < high() && x >= 0 && x < wide();
    }

    int pins() {
        int pins = 0;
        for (boolean[] row : pinned) {
            for (boolean is : row) {
                pins += is ? 1 : 0;
            }
        }
        return pins;
    }

    private int wanted(int x, int y) {
        int[] found = new int[4];
        int n = 0;
        int[][] ways = {{0, -1}, {0, 1}, {-1, 0}, {1, 0}};
        for (int[] way : ways) {
            if (has(x + way[0], y + way[1])) {
                found[n++] = height[y + way[1]][x + way[0]];
            }
        }
        Arrays.sort(found, 0, n);
        int lower = n == 2 ? found[0] : found[1];
        int upper = n == 4 ? found[2] : found[1];
        int own = height[y][x];
        return own < lower ? lower : own > upper ? upper : own;
    }

    int slack() {
        int sum = 0;
        for (int y = 0; y < high(); y++) {
            for (int x = 0; x < wide(); x++) {
                sum += pinned[y][x] ? 0 : Math.abs(wanted(x, y) - height[y][x]);
            }
        }
        return sum;
    }

    private void round() {
        for (int y = 0; y < high(); y++) {
            for (int x = 0; x < wide(); x++) {
                if (!pinned[y][x]) {
                    height[y][x] = wanted(x, y);
                }
            }
        }
    }

    int rounds(int n) {
        int done = 0;
        while (done < n && slack() > 0) {
            round();
            done++;
        }
        return done;
    }

    int drawn() {
        int sum = 0;
        for (int y = 0; y < high(); y++) {
            for (int x = 0; x < wide(); x++) {
                sum += x > 0 ? Math.abs(height[y][x] - height[y][x - 1]) : 0;
                sum += y > 0 ? Math.abs(height[y][x] - height[y - 1][x]) : 0;
            }
        }
        return sum;
    }
}
