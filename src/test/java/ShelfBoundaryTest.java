/** Boundaries of bodies, acts, shelves, joins that come from rows, and rows that are shifted. */
public final class ShelfBoundaryTest extends Boundary {
    public static void main(String[] args) {
        bodiesAndActs();
        shelves();
        joinsFromRows();
        shifts();
        end("boundaries of acts and shelves");
    }

    private static void bodiesAndActs() {
        sentence("BODIES 0 .. 49 are kept by call. FULL");
        ThreeDoors x = new ThreeDoors();
        for (int n = 0; n < 50; n++) {
            due(x.act(n, 2, 0), 0);
            due(x.count(6), 0);
            due(x.body(n % 3), n);
            due(x.count(5), n + 1);
        }
        due(x.body(7), FULL);
        due(x.count(5), 50);
        due(x.act(49, 0, 0), 52);
        due(x.act(48, 0, 0), 48);
        due(x.act(50, 0, 0), 0);

        takes("a BODY of a KIND", 0, 7, v -> lone(0).body(v));
        actsThatWrap();

        sentence("0, and no TRACE then: no such BODY, ACT");
        for (int[] bad : new int[][] {{-1, 0}, {8, 0}, {0, -1}, {0, 4}, {LEAST, 0}, {GREATEST, 0}, {0, LEAST},
            {0, GREATEST}, {256, 0}, {0, 256}, {8, 4}}) {
            x = ofEachKind();
            due(x.act(5, 3, 1), 30);
            due(x.count(6), 10);
            due(x.act(bad[0], bad[1], 9), 0);
            due(x.count(6), 0);
            due(x.trace(0), BAD);
            due(x.act(0, 0, 9), 9);
            due(x.count(6), 1);
        }
        x = ofEachKind();
        due(x.act(0, 0, 0), 0);
        due(x.count(6), 1);

        sentence("THE TRACE's i-th body: of the latest act(), as they began. BAD");
        due(x.act(5, 3, 1), 30);
        int[] began = {61, 50, 2, 10, 20, 1, 60, 11, 20, 1};
        for (int i = 0; i < began.length; i++) {
            due(x.trace(i), began[i]);
        }
        for (int i : new int[] {-1, 10, 11, 23, 24, 25, LEAST, GREATEST, 256}) {
            due(x.trace(i), BAD);
        }
        x.act(0, 2, 1);
        due(x.trace(0), 11);
        due(x.trace(1), BAD);
        due(x.count(6), 1);
    }

    private static ThreeDoors ofEachKind() {
        ThreeDoors x = new ThreeDoors();
        for (int kind = 0; kind < 8; kind++) {
            x.body(kind);
        }
        return x;
    }

    private static void actsThatWrap() {
        sentence("x (an int that wraps)");
        ThreeDoors x = ofEachKind();
        due(x.act(0, 0, GREATEST), GREATEST);
        due(x.act(0, 1, GREATEST), -2);
        due(x.act(0, 1, LEAST), 0);
        due(x.act(0, 1, 1 << 30), LEAST);
        due(x.act(0, 2, LEAST), LEAST);
        due(x.act(0, 2, -1), -1);
        due(x.act(0, 3, 1 << 30), GREATEST);
        due(x.act(1, 0, GREATEST), LEAST + 3);
        due(x.act(1, 0, GREATEST - 4), GREATEST);
        due(x.act(1, 0, GREATEST - 3), LEAST);
        due(x.act(1, 1, GREATEST - 3), 0);
        due(x.act(2, 0, GREATEST), LEAST + 1);
        due(x.act(2, 1, (1 << 30) - 2), LEAST);
        due(x.act(2, 1, LEAST), -4);
        due(x.act(3, 0, LEAST), LEAST + 3);
        due(x.act(3, 1, GREATEST), -2 * (LEAST + 3));
        due(x.act(3, 2, 1 << 30), (int) (3L * ((1 << 30) ^ 3)));
        due(x.act(3, 2, GREATEST), (int) (3L * (GREATEST ^ 3)));
        due(x.act(3, 2, LEAST), (int) (3L * (LEAST ^ 3)));
        due(x.act(4, 0, GREATEST - 6), LEAST);
        due(x.act(4, 3, LEAST), (2 * (4 + 3) - (1 ^ 4)) ^ 5);
        due(x.act(5, 2, LEAST), (LEAST ^ 5) - (2 + 5 + 3));
        due(x.act(6, 0, 1 << 30), LEAST + 12);
        due(x.act(6, 0, GREATEST), 10);
        due(x.act(7, 0, GREATEST), 11);
        due(x.act(7, 0, LEAST), 13);
        due(x.act(7, 1, LEAST), 2 * 13 + (2 ^ 7));
        due(x.act(7, 2, LEAST), LEAST ^ 7);
    }

    private static void shelves() {
        sentence("SHELVES 0 .. 5 each hold nothing (at first)");
        ThreeDoors x = ofEachKind();
        for (int shelf = 0; shelf < 6; shelf++) {
            due(x.taken(shelf, 0), -11);
            due(x.put(shelf, 0, 1), -11);
            due(x.element(shelf, 0), Long.MIN_VALUE);
            due(x.shift(shelf, 0, shelf, 0, 0), -11);
            due(x.stood(shelf, 0), -11);
            due(x.joins(shelf, 0, 1), 0);
        }

        sentence("each by itself: nothing, a BODY, or a ROW");
        for (int shelf = 0; shelf < 6; shelf++) {
            due(x.keep(shelf, shelf), 1);
        }
        due(x.keep(3, -1), 1);
        due(x.row(4, 2, 1), 1);
        int[] takenAs = {0, 1, 2, -11, -12, 5};
        for (int shelf = 0; shelf < 6; shelf++) {
            due(x.taken(shelf, 0), takenAs[shelf]);
        }
        due(x.keep(4, 7), 1);
        due(x.taken(4, 0), 7);
        due(x.put(4, 0, 1), -12);
        due(x.row(5, 0, 0), 1);
        due(x.taken(5, 0), -12);
        due(x.keep(5, -1), 1);
        due(x.taken(5, 0), -11);
        due(x.put(5, 0, 0), -11);

        sentence("of 0 .. 60 elements, 0 at first");
        for (int sort = 0; sort < 5; sort++) {
            for (int n : new int[] {0, 1, 59, 60}) {
                due(x.row(0, sort, n), 1);
                if (n > 0) {
                    due(x.element(0, 0), 0);
                    due(x.element(0, n - 1), 0);
                    due(x.put(0, n - 1, 1), 1);
                    due(x.element(0, n - 1), 1);
                }
                due(x.put(0, n, 1), -13);
                due(x.put(0, -1, 1), -13);
                due(x.element(0, n), Long.MIN_VALUE);
                due(x.element(0, -1), Long.MIN_VALUE);
            }
        }
        for (int n : new int[] {61, 62, 64, 256, GREATEST}) {
            due(x.row(0, 0, n), BAD);
        }
        for (int n : new int[] {-1, -2, -60, LEAST}) {
            due(x.row(0, 0, n), -14);
        }
        x = ofEachKind();
        x.row(0, 0, 60);
        for (int i : new int[] {60, 61, 64, 256, GREATEST, -2, -60, LEAST}) {
            due(x.put(0, i, 1), -13);
            due(x.element(0, i), Long.MIN_VALUE);
        }

        lowestBits();
        takenUnder();
    }

    private static void lowestBits() {
        sentence("what is put in keeps its lowest bits (a boolean: whether it is not 0; 1 or 0)");
        long[] put = {127, 128, 255, 256, -128, -129, 32767, 32768, 65535, 65536, -32768, -32769, GREATEST,
            GREATEST + 1L, (1L << 32) - 1, 1L << 32, LEAST, LEAST - 1L, Long.MAX_VALUE, Long.MIN_VALUE, -1, 2, 0, 1};
        ThreeDoors[] of = new ThreeDoors[5];
        for (int sort = 0; sort < 5; sort++) {
            of[sort] = new ThreeDoors();
            of[sort].row(2, sort, 1);
            for (long v : put) {
                long want = sort == 0 ? (byte) v : sort == 1 ? (short) v : sort == 2 ? (int) v : sort == 3 || v == 0
                    ? v : 1;
                due(of[sort].put(2, 0, v), 1);
                due(of[sort].element(2, 0), want);
            }
        }
        // the same by hand, where a sort's bounds are
        long[][] hand = {{0, 127, 127}, {0, 128, -128}, {0, -129, 127}, {0, 256, 0}, {1, 32767, 32767},
            {1, 32768, -32768}, {1, -32769, 32767}, {1, 65536, 0}, {2, GREATEST, GREATEST}, {2, GREATEST + 1L, LEAST},
            {2, 1L << 32, 0}, {3, Long.MAX_VALUE, Long.MAX_VALUE}, {3, 1L << 32, 1L << 32}, {4, 2, 1}, {4, 256, 1},
            {4, 1L << 32, 1}, {4, -1, 1}, {4, Long.MIN_VALUE, 1}, {4, 0, 0}};
        for (long[] at : hand) {
            due(of[(int) at[0]].put(2, 0, at[1]), 1);
            due(of[(int) at[0]].element(2, 0), at[2]);
        }
    }

    private static void takenUnder() {
        sentence("taken for a BODY of KIND k (0 .. 7), or under it: its KIND");
        String[] under = {"0", "01", "02", "023", "014", "0145", "06", "067"};
        for (int kind = 0; kind < 8; kind++) {
            ThreeDoors x = ofEachKind();
            x.keep(5, kind);
            for (int k = 0; k < 8; k++) {
                due(x.taken(5, k), under[kind].indexOf('0' + k) >= 0 ? kind : -12);
            }
        }
        ThreeDoors x = new ThreeDoors();
        for (int n = 0; n < 50; n++) {
            x.body(n < 49 ? 0 : 7);
        }
        due(x.keep(0, 49), 1);
        due(x.taken(0, 7), 7);
        due(x.keep(0, 48), 1);
        due(x.taken(0, 7), -12);
        due(x.taken(0, 0), 0);
        due(x.keep(0, 50), BAD);
    }

    private static void joinsFromRows() {
        sentence("by twos the one DOOR, the other: n of them: how many came");
        ThreeDoors x = lone(14);
        bytes(x, 0, 0, 13, 13, 0, 1, 2);
        due(x.joins(0, 0, 1), 1);
        due(x.of(0, 10), 13);
        due(x.joins(0, 0, 2), 2);
        due(x.of(2, 10), 1300);
        due(x.joins(0, 0, 3), 3);
        due(x.joins(0, 1, 1), 0);
        due(x.joins(0, 2, 30), 2);
        due(x.joins(0, 3, 30), 1);
        due(x.of(8, 10), 1);
        due(x.count(1), 9);

        sentence("it ends where the row is missing");
        due(x.joins(1, 0, 1), 0);
        due(x.joins(1, 0, 30), 0);

        sentence("it ends where the row ends (within a two, too)");
        due(x.joins(0, 4, 1), 1);
        due(x.joins(0, 4, 2), 1);
        due(x.joins(0, 5, 1), 0);
        due(x.joins(0, 6, 1), 0);
        due(x.joins(0, 7, 1), 0);
        due(x.joins(0, GREATEST, 1), 0);
        due(x.joins(0, GREATEST - 1, 30), 0);
        bytes(x, 1, 0, 1, 2);
        due(x.joins(1, 0, 2), 1);
        due(x.joins(1, 1, 2), 1);
        due(x.joins(1, 2, 2), 0);
        x.row(2, 0, 0);
        due(x.joins(2, 0, 1), 0);
        x.row(2, 0, 1);
        due(x.joins(2, 0, 1), 0);

        sentence("(0 with i below 0)");
        for (int i : new int[] {-1, -2, -59, -60, LEAST, LEAST + 1}) {
            due(x.joins(0, i, 1), 0);
            due(x.joins(0, i, 30), 0);
        }
        due(x.count(1), 13);

        sentence("it ends where one is not as it may be: those ahead came");
        int[][] twos = {{0, 0}, {13, 13}, {0, 14}, {14, 0}, {-1, 0}, {0, -1}, {127, 1}, {1, -128}, {1, 101}};
        for (int[] two : twos) {
            ThreeDoors y = lone(14);
            bytes(y, 0, 0, 1, two[0], two[1], 2, 3);
            due(y.joins(0, 0, 3), 1);
            due(y.count(1), 1);
            due(y.joins(0, 2, 1), 0);
            due(y.joins(0, 4, 2), 1);
        }

        sentence("or JOINS are FULL: those ahead came");
        x = lone(14);
        x.row(0, 0, 60);
        for (int k = 1; k < 60; k += 2) {
            x.put(0, k, k % 13 + 1);
        }
        due(x.joins(0, 0, 30), 30);
        due(x.joins(0, 0, 9), 9);
        due(x.count(1), 39);
        due(x.joins(0, 58, 30), 1);
        due(x.count(1), 40);
        due(x.joins(0, 0, 1), 0);
        x = lone(14);
        x.row(0, 0, 60);
        for (int k = 1; k < 60; k += 2) {
            x.put(0, k, 5);
        }
        due(x.joins(0, 0, 30), 30);
        due(x.joins(0, 0, 30), 10);
        due(x.count(1), 40);
        due(x.of(39, 10), 5);

        takes("n of them", 1, 30, v -> withARow(2).joins(0, 0, v));
    }

    private static void shifts() {
        sentence("n elements of a ROW from i on come to another one from j on: n. -13 (n below 0, too)");
        int[][] taken = {{0, 0, 0}, {0, 0, 3}, {2, 0, 3}, {5, 0, 0}, {5, 3, 0}, {0, 3, 0}, {4, 2, 1}, {3, 1, 2}};
        int[][] gone = {{0, 0, 4}, {3, 0, 3}, {0, 1, 3}, {5, 0, 1}, {6, 0, 0}, {0, 4, 0}, {0, 3, 1}, {-1, 0, 1},
            {0, -1, 1}, {-1, 0, 0}, {0, -1, 0}, {0, 0, -1}, {3, 2, -1}, {5, 3, -1}, {GREATEST, 0, 1},
            {0, GREATEST, 1}, {0, 0, GREATEST}, {GREATEST, 0, GREATEST}, {1, 1, GREATEST}, {LEAST, 0, 0},
            {0, LEAST, 0}, {0, 0, LEAST}, {GREATEST, 0, LEAST}, {LEAST, LEAST, LEAST}};
        for (int[] at : taken) {
            due(ofFiveAndThree().shift(0, at[0], 1, at[1], at[2]), at[2]);
        }
        for (int[] at : gone) {
            due(ofFiveAndThree().shift(0, at[0], 1, at[1], at[2]), -13);
        }
        ThreeDoors x = ofFiveAndThree();
        x.shift(0, 2, 1, 1, 2);
        elements(x, 0, 1, 2, 3, 4, 5);
        elements(x, 1, 6, 3, 4);
        x.row(2, 0, 60);
        x.row(3, 0, 60);
        x.put(2, 59, 9);
        due(x.shift(2, 0, 3, 0, 60), 60);
        due(x.element(3, 59), 9);
        due(x.shift(2, 59, 3, 0, 1), 1);
        due(x.element(3, 0), 9);
        due(x.shift(2, 0, 3, 0, 61), -13);
        due(x.shift(2, 59, 3, 0, 2), -13);

        sentence("(or the same), as they all were before");
        x = ofFiveAndThree();
        due(x.shift(0, 0, 0, 1, 4), 4);
        elements(x, 0, 1, 1, 2, 3, 4);
        x = ofFiveAndThree();
        due(x.shift(0, 1, 0, 0, 4), 4);
        elements(x, 0, 2, 3, 4, 5, 5);
        x = ofFiveAndThree();
        due(x.shift(0, 0, 0, 0, 5), 5);
        elements(x, 0, 1, 2, 3, 4, 5);
        due(x.shift(0, 0, 0, 1, 5), -13);
        elements(x, 0, 1, 2, 3, 4, 5);

        sentence("-12 (no ROWS, or of unlike sorts)");
        for (int sort = 0; sort < 5; sort++) {
            for (int other = 0; other < 5; other++) {
                x = new ThreeDoors();
                x.row(0, sort, 2);
                x.row(1, other, 2);
                x.put(0, 1, 1);
                due(x.shift(0, 1, 1, 0, 1), sort == other ? 1 : -12);
                due(x.element(1, 0), sort == other ? 1 : 0);
            }
        }
    }

    private static ThreeDoors ofFiveAndThree() {
        ThreeDoors x = new ThreeDoors();
        bytes(x, 0, 1, 2, 3, 4, 5);
        bytes(x, 1, 6, 7, 8);
        return x;
    }

    private static void elements(ThreeDoors x, int shelf, int... want) {
        for (int i = 0; i < want.length; i++) {
            due(x.element(shelf, i), want[i]);
        }
        due(x.put(shelf, want.length, 0), -13);
    }
}
