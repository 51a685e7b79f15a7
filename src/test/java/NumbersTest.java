/** Boundaries of each number of each call: from what to what it is taken. */
public final class NumbersTest extends Boundary {
    public static void main(String[] args) {
        numbersThatCallsTake();
        end("boundaries of numbers");
    }

    /** Three doors, two joins, one wall, two bodies, bytes on the first shelf, a body on the second. */
    private static ThreeDoors town() {
        ThreeDoors x = path(3);
        x.wall(2, 1);
        x.body(7);
        x.body(0);
        bytes(x, 0, 0, 1, 2, 3);
        x.keep(1, 0);
        x.act(0, 3, 1);
        return x;
    }

    private static void numbersThatCallsTake() {
        takes("mend: PRICE (what 0), YEAR (1) of a DOOR, COST (2) of a WALL", 0, 2, v -> town().mend(0, v, 1));
        takes("mend: PRICE of a DOOR", 0, 2, v -> town().mend(v, 0, 1));
        takes("mend: PRICE", 0, 99, v -> town().mend(2, 0, v));
        takes("mend: YEAR of a DOOR", 0, 2, v -> town().mend(v, 1, 1));
        takes("mend: YEAR", 0, 9, v -> town().mend(2, 1, v));
        takes("mend: COST of a WALL", 0, 0, v -> town().mend(v, 2, 1));
        takes("mend: COST", 0, 99, v -> town().mend(0, 2, v));
        for (int what = 0; what <= 3; what++) {
            int told = what;
            takes("of a DOOR: " + what, 0, 2, v -> town().of(v, told));
        }
        takes("of a JOIN: 10", 0, 1, v -> town().of(v, 10));
        takes("of a WALL: 20", 0, 0, v -> town().of(v, 20));
        takes("of a WALL: 21", 0, 0, v -> town().of(v, 21));
        sentence("of: 0, 1, 2, 3; 10; 20, 21");
        for (int what = -300; what <= 300; what++) {
            boolean is = what >= 0 && what <= 3 || what == 10 || what == 20 || what == 21;
            must(town().of(0, what) != BAD == is, "what " + what);
        }

        takes("best", 0, 2, v -> town().best(v));
        takes("all", 0, 2, v -> town().all(v));
        takes("greedy", 0, 1, v -> town().greedy(v));
        takes("dry's DOOR with a well", 2, 2, v -> town().dry(4, v, 0));
        takes("dry's what", 0, 1, v -> town().dry(4, 2, v));
        takes("breaks", 0, 1, v -> town().breaks(v));
        takes("goes' DOOR", 0, 2, v -> town().goes(4, v));
        takes("worth's DOOR with a well", 2, 2, v -> town().worth(4, v));
        takes("steps' what", 0, 1, v -> town().steps(4, v));
        takes("turn's PRICE", 0, 99, v -> town().turn(v, 0));
        takes("turn's what", 0, 1, v -> town().turn(99, v));
        takes("trace's i", 0, 7, v -> town().trace(v));
        takes("count", 0, 6, v -> town().count(v));

        takesBits("goes", NumbersTest::roundOfDoors, (x, bits) -> x.goes(bits, 0) + (x.count(0) == 0 && bits == 0 ? 5
            : 0));
        takesBits("steps", Boundary::lone, (x, bits) -> x.steps(bits, 1));
        takesBits("missed", Boundary::lone, (x, bits) -> x.missed(bits));

        takes("joins' SHELF", 0, 5, v -> town().joins(v, 0, 1));
        takes("stood's SHELF", 0, 5, v -> town().stood(v, 0));
        takes("keep's SHELF", 0, 5, v -> town().keep(v, -1));
        takes("keep's BODY (or -1: nothing)", -1, 1, v -> town().keep(0, v));
        takes("row's SHELF", 0, 5, v -> town().row(v, 0, 1));
        takes("row's sort", 0, 4, v -> town().row(0, v, 1));
        takes("put's SHELF", 0, 5, v -> town().put(v, 0, 1));
        takes("shift's one SHELF", 0, 5, v -> town().shift(v, 0, 0, 0, 1));
        takes("shift's other SHELF", 0, 5, v -> town().shift(0, 0, v, 0, 1));
        takes("taken's SHELF", 0, 5, v -> town().taken(v, 0));
        takes("taken's k", 0, 7, v -> town().taken(1, v));
        sentence("element's SHELF: 0 .. 5");
        for (int shelf = -300; shelf <= 300; shelf++) {
            ThreeDoors x = town();
            if (shelf >= 0 && shelf < 6) {
                x.row(shelf, 3, 1);
                due(x.element(shelf, 0), 0);
            } else {
                due(x.element(shelf, 0), Long.MIN_VALUE);
            }
        }
    }

    private static ThreeDoors roundOfDoors(int doors) {
        ThreeDoors x = path(doors);
        x.join(doors - 1);
        return x;
    }
}
