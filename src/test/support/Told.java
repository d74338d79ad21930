/** The whole document written a second time, refusals included: what each call's answer is due to be. */
final class Told {
    private static final int BAD = -1;
    private static final int STATE = -2;
    private static final int NO = -1000000;
    private static final int[] LOW = {0, 0, 0, 0, 0, 1, 0};
    private static final int[] HIGH = {9, 9, 9, 9, 9, 9, 2};

    private final ToldBox box = new ToldBox();
    private ToldNet net = new ToldNet(4, 4);
    private long trace = 0;

    /** What a call is due to answer now, and what it changes. */
    long call(Call c) {
        int a = c.a();
        int b = c.b();
        switch (c.name()) {
            case "box": return box(a, b, c.c());
            case "hold": return hold(a, b);
            case "price": return price(a, b);
            case "set": return set(a, b);
            case "cost": return cost(a, b, c.c());
            case "skin": return isSet(c.set()) ? box.skin(c.set()) : BAD;
            case "all": return isSet(c.set()) ? box.all(c.set(), 0) : NO;
            case "right": return isSet(c.set()) ? one(box.isRight(c.set())) : BAD;
            case "least": return find(0)[0];
            case "film": return a == 0 || a == 1 ? find(0)[1 + a] : BAD;
            case "room": return a < -60 || a > 60 || b < 0 || b > 1 ? BAD : Long.bitCount(find(a)[1 + b]);
            case "many": return box.free() > 12 ? STATE : box.tryAll(0)[3];
            case "net": return net(a, b);
            case "lift": return lift(a, b, c.c());
            case "pin": return pin(a, b, c.is());
            case "height": return net.has(a, b) ? net.height[b][a] : NO;
            case "drawn": return net.drawn();
            case "slack": return net.slack();
            case "rounds": return a < 1 || a > 50 ? BAD : net.rounds(a);
            case "count": return count(a);
            case "trace": return trace;
            default: throw new IllegalArgumentException(c.name());
        }
    }

    int cells() {
        return box.cells();
    }

    int wide() {
        return net.wide();
    }

    int high() {
        return net.high();
    }

    private long[] find(int rise) {
        return box.free() <= 9 ? box.tryAll(rise) : box.byLayers(rise);
    }

    private static long one(boolean is) {
        return is ? 1 : 0;
    }

    private boolean isCell(int cell) {
        return cell >= 0 && cell < box.cells();
    }

    private boolean isSet(long set) {
        return set >= 0 && set <= box.every();
    }

    private long box(int x, int y, int z) {
        if (x < 1 || x > 4 || y < 1 || y > 4 || z < 1 || z > 4 || x * y * z > 36) {
            return BAD;
        }
        box.lay(x, y, z);
        return box.cells();
    }

    private long hold(int cell, int how) {
        if (!isCell(cell) || how < 0 || how > 2) {
            return BAD;
        }
        int was = box.held[cell];
        box.held[cell] = how;
        return was;
    }

    private long price(int cell, int v) {
        if (!isCell(cell) || v < -20 || v > 20) {
            return NO;
        }
        int was = box.price[cell];
        box.price[cell] = v;
        return was;
    }

    private long set(int what, int v) {
        if (what < 0 || what > 6 || v < LOW[what] || v > HIGH[what]) {
            return BAD;
        }
        int was = box.rules[what];
        box.rules[what] = v;
        return was;
    }

    private long cost(int kind, int one, int other) {
        if (kind < 0 || kind > 2 || !isCell(one) || !isCell(other) || box.wayBetween(one, other) < 0) {
            return BAD;
        }
        trace += kind == 0 ? 1 : kind == 1 ? 11 : 111;
        int way = box.wayBetween(one, other);
        return box.seam(kind, way, box.place(Math.min(one, other), way));
    }

    private long net(int w, int h) {
        if (w < 2 || w > 8 || h < 2 || h > 8) {
            return BAD;
        }
        net = new ToldNet(w, h);
        return w * h - net.pins();
    }

    private long lift(int x, int y, int v) {
        if (!net.has(x, y) || v < -100 || v > 100) {
            return NO;
        }
        int was = net.height[y][x];
        net.height[y][x] = v;
        return was;
    }

    private long pin(int x, int y, boolean is) {
        if (!net.has(x, y)) {
            return BAD;
        }
        boolean was = net.pinned[y][x];
        net.pinned[y][x] = is;
        return one(was);
    }

    private long count(int what) {
        switch (what) {
            case 0:
            case 1:
            case 2:
                return box.size[what];
            case 3: return box.free();
            case 4: return net.wide();
            case 5: return net.high();
            case 6: return net.pins();
            case 7: return one(net.slack() == 0);
            default: return BAD;
        }
    }
}
