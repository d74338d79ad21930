import java.util.List;

/** One call of the face with its numbers: those that it does not take are left out of what it prints. */
record Call(String name, int a, int b, int c, long set, boolean is) {
    /** All calls, in the order of the promises that tell of them. */
    static final List<String> NAMES = List.of("box", "hold", "price", "set", "cost", "skin", "all", "right", "least",
            "film", "room", "many", "net", "lift", "pin", "height", "drawn", "slack", "rounds", "count", "trace");

    static Call of(String name) {
        return new Call(name, 0, 0, 0, 0, false);
    }

    static Call of(String name, int a) {
        return new Call(name, a, 0, 0, 0, false);
    }

    static Call of(String name, int a, int b) {
        return new Call(name, a, b, 0, 0, false);
    }

    static Call of(String name, int a, int b, int c) {
        return new Call(name, a, b, c, 0, false);
    }

    static Call ofSet(String name, long set) {
        return new Call(name, 0, 0, 0, set, false);
    }

    static Call ofPin(int x, int y, boolean is) {
        return new Call("pin", x, y, 0, 0, is);
    }

    long ask(SkinBox s) {
        switch (name) {
            case "box": return s.box(a, b, c);
            case "hold": return s.hold(a, b);
            case "price": return s.price(a, b);
            case "set": return s.set(a, b);
            case "cost": return s.cost(a, b, c);
            case "skin": return s.skin(set);
            case "all": return s.all(set);
            case "right": return s.right(set);
            case "least": return s.least();
            case "film": return s.film(a);
            case "room": return s.room(a, b);
            case "many": return s.many();
            case "net": return s.net(a, b);
            case "lift": return s.lift(a, b, c);
            case "pin": return s.pin(a, b, is);
            case "height": return s.height(a, b);
            case "drawn": return s.drawn();
            case "slack": return s.slack();
            case "rounds": return s.rounds(a);
            case "count": return s.count(a);
            case "trace": return s.trace();
            default: throw new IllegalArgumentException(name);
        }
    }

    /** The number of the promise that tells of this call. */
    int promise() {
        return 2 + NAMES.indexOf(name);
    }

    @Override
    public String toString() {
        switch (name) {
            case "box":
            case "cost":
            case "lift":
                return name + "(" + a + ", " + b + ", " + c + ")";
            case "hold":
            case "price":
            case "set":
            case "room":
            case "net":
            case "height":
                return name + "(" + a + ", " + b + ")";
            case "pin":
                return name + "(" + a + ", " + b + ", " + is + ")";
            case "skin":
            case "all":
            case "right":
                return name + "(" + set + ")";
            case "film":
            case "rounds":
            case "count":
                return name + "(" + a + ")";
            default:
                return name + "()";
        }
    }
}
