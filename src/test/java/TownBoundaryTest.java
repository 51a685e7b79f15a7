import java.util.Arrays;

/** Boundaries of a new object, doors, joins, walls, old wells, FAR, NEAR, and changes that are undone. */
public final class TownBoundaryTest extends Boundary {
    public static void main(String[] args) {
        doorsAndJoins();
        wallsAndWells();
        farAndNear();
        changes();
        end("boundaries of the town");
    }

    private static void doorsAndJoins() {
        sentence("No doors.");
        ThreeDoors x = new ThreeDoors();
        for (int what = 0; what <= 6; what++) {
            due(x.count(what), 0);
        }
        for (int what : new int[] {0, 1, 2, 3, 10, 20, 21}) {
            due(x.of(0, what), BAD);
        }
        due(x.trace(0), BAD);
        due(x.undo(), STATE);
        due(x.redo(), STATE);
        due(x.law(), -100);
        for (int shelf = 0; shelf < 6; shelf++) {
            due(x.taken(shelf, 0), -11);
        }
        due(x.old(0), 0);
        due(x.judge(0), NOT);
        due(x.all(0), 1);

        sentence("DOORS 0 .. 13, as they come. FULL: 14.");
        x = new ThreeDoors();
        for (int d = 0; d < 14; d++) {
            due(x.of(d, 0), BAD);
            due(x.door(d + 1, d % 10), d);
            due(x.count(0), d + 1);
        }
        due(x.door(50, 5), FULL);
        due(x.count(0), 14);
        for (int d = 0; d < 14; d++) {
            due(x.of(d, 0), d + 1);
            due(x.of(d, 1), d % 10);
        }
        due(x.of(14, 0), BAD);

        takes("a PRICE of digging", 0, 99, v -> path(2).door(v, 0));
        takes("a YEAR in which it is built", 0, 9, v -> path(2).door(1, v));

        sentence("JOINS 0 .. 39, as they come. FULL: 40.");
        x = lone(14);
        for (int k = 0; k < 40; k++) {
            due(x.of(k, 10), BAD);
            due(x.join(100 * (k % 13) + 13), k);
            due(x.count(1), k + 1);
        }
        due(x.join(1), FULL);
        due(x.count(1), 40);
        due(x.far(1), 2);
        for (int k = 0; k < 40; k++) {
            due(x.of(k, 10), 100 * (k % 13) + 13);
        }
        due(x.of(40, 10), BAD);
        due(x.of(13, 2), 40);

        pairs("JOINS: of two DOORS (unlike)", false, (town, ab) -> town.join(ab));
        pairs("WALLS: between two DOORS (unlike)", false, (town, ab) -> town.wall(ab, 1));
        pairs("FAR of two DOORS (ab; alike: 0)", true, (town, ab) -> town.far(ab));

        sentence("the same two may be joined again");
        x = lone(2);
        due(x.join(1), 0);
        due(x.join(1), 1);
        due(x.join(100), 2);
        due(x.of(0, 2), 3);
        due(x.of(1, 2), 3);
        due(x.far(1), 1);
        due(x.of(0, 10), 1);
        due(x.of(2, 10), 100);

        sentence("one step, both ways");
        x = lone(3);
        x.join(2);
        due(x.far(2), 1);
        due(x.far(200), 1);
        due(x.of(1, 2), 0);
        due(x.goes(1, 2), 0);
        due(x.goes(4, 0), 2);
    }

    private interface PairCall {
        long of(ThreeDoors x, int ab);
    }

    /** Every ab near the bounds, in towns of no, one, two and of all doors. */
    private static void pairs(String words, boolean alikeToo, PairCall call) {
        sentence(words);
        for (int doors : new int[] {0, 1, 2, 13, 14}) {
            for (int ab = -1500; ab <= 1500; ab++) {
                boolean is = ab >= 0 && ab / 100 < doors && ab % 100 < doors && (alikeToo || ab / 100 != ab % 100);
                must(call.of(lone(doors), ab) != BAD == is, "of " + doors + " doors: " + ab);
            }
            for (int ab : new int[] {LEAST, GREATEST, GREATEST - 46, 1 << 30, 65536, 65537, -100 * 65536 + 1}) {
                due(call.of(lone(doors), ab), BAD);
            }
        }
    }

    private static void wallsAndWells() {
        sentence("WALLS 0 .. 9, as they come. FULL: 10.");
        ThreeDoors x = lone(14);
        for (int k = 0; k < 10; k++) {
            due(x.of(k, 20), BAD);
            due(x.of(k, 21), BAD);
            due(x.mend(k, 2, 1), BAD);
            due(x.wall(100 * (k % 3) + 13, 9 * k), k);
            due(x.count(2), k + 1);
        }
        due(x.wall(1, 1), FULL);
        due(x.count(2), 10);
        for (int k = 0; k < 10; k++) {
            due(x.of(k, 20), 100 * (k % 3) + 13);
            due(x.of(k, 21), 9 * k);
        }
        due(x.of(10, 20), BAD);
        due(x.of(10, 21), BAD);

        takes("a COST", 0, 99, v -> path(2).wall(1, v));

        sentence("WALLS: no way");
        due(x.far(13), 99);
        due(x.of(0, 2), 0);
        due(x.of(13, 2), 0);
        due(x.count(1), 0);
        due(x.goes(1, 13), NOT);

        takesBits("OLD wells become bits", Boundary::lone, ThreeDoors::old);
        sentence("OLD wells become bits: which they were");
        x = lone(14);
        due(x.old(16383), 0);
        due(x.old(8192), 16383);
        due(x.old(1), 8192);
        due(x.old(1), 1);
        due(x.old(0), 1);
        due(x.old(0), 0);

        sentence("OLD wells: they stay");
        x = path(4);
        x.old(8);
        due(x.best(0), 8);
        due(x.all(0), 1);
        due(x.all(1), 8);
        due(x.greedy(0), 8);
        due(x.turn(99, 1), 8);
        due(x.grow(), 8);
        due(x.even(), 8);
    }

    private static void farAndNear() {
        sentence("FAR of two DOORS: the fewest steps; none: 99");
        ThreeDoors x = path(14);
        due(x.far(13), 13);
        due(x.far(1300), 13);
        x.join(1);
        due(x.far(13), 13);
        x.join(13);
        due(x.far(13), 1);
        due(x.far(7), 7);
        due(x.far(8), 6);
        x = path(13);
        x.door(1, 0);
        due(x.far(13), 99);
        due(x.far(1300), 99);
        due(x.far(1312), 99);
        due(x.far(12), 12);
        for (int d = 0; d < 14; d++) {
            due(x.far(101 * d), 0);
        }

        takes("NEAR", 0, 9, v -> path(2).near(v));
        sentence("NEAR (4 at first); becomes v: what it was");
        x = new ThreeDoors();
        due(x.near(9), 4);
        due(x.near(0), 9);
        due(x.near(0), 0);
        due(x.near(4), 0);
        sentence("4 at first: wells 4 doors apart are not too near, wells 3 apart are");
        due(path(5).judge(1 | 16), NOT);
        due(path(4).judge(1 | 8), 103);
    }

    private static void changes() {
        sentence("CHANGES can be UNDONE, the latest first: how many may still be. STATE: none.");
        ThreeDoors x = path(1);
        x.mend(0, 0, 11);
        x.mend(0, 1, 5);
        x.mend(0, 0, 12);
        due(x.count(4), 3);
        due(x.undo(), 2);
        due(x.of(0, 0), 11);
        due(x.of(0, 1), 5);
        due(x.undo(), 1);
        due(x.of(0, 1), 0);
        due(x.undo(), 0);
        due(x.of(0, 0), 10);
        due(x.undo(), STATE);
        due(x.count(4), 0);

        sentence("DONE AGAIN: how many may still be. STATE: none.");
        due(x.redo(), 2);
        due(x.of(0, 0), 11);
        due(x.redo(), 1);
        due(x.of(0, 1), 5);
        due(x.redo(), 0);
        due(x.of(0, 0), 12);
        due(x.redo(), STATE);
        due(x.count(4), 3);

        sentence("DONE AGAIN (as long as no other came behind)");
        x.undo();
        x.undo();
        x.mend(0, 1, 9);
        due(x.redo(), STATE);
        due(x.count(4), 2);
        due(x.undo(), 1);
        due(x.of(0, 1), 0);
        due(x.redo(), 0);
        due(x.of(0, 1), 9);

        sentence("a PRICE, YEAR or COST that becomes what it is: no CHANGE, none came behind");
        x.undo();
        due(x.mend(0, 1, 0), 0);
        due(x.mend(0, 0, 11), 11);
        due(x.count(4), 1);
        due(x.redo(), 0);
        due(x.of(0, 1), 9);

        x = path(2);
        x.wall(1, 5);
        due(x.mend(0, 2, 5), 5);
        due(x.undo(), STATE);

        noOtherChangeCame();
        keptChanges();
        keptChangesOfAllSorts();
    }

    /** What is no change of a price, year or cost can't be undone, and does not stand ahead of what may be done again. */
    private static void noOtherChangeCame() {
        sentence("CHANGES (PRICE, YEAR of DOORS; COST of WALLS): nothing else is one");
        ThreeDoors x = path(2);
        x.wall(1, 5);
        x.mend(1, 0, 30);
        x.mend(0, 2, 6);
        due(x.undo(), 1);
        x.door(20, 3);
        x.join(102);
        x.wall(2, 7);
        x.old(1);
        x.near(2);
        fed(x, "d+1");
        bytes(x, 0, 0, 2);
        x.joins(0, 0, 1);
        x.body(1);
        x.act(0, 1, 2);
        due(x.mend(0, 2, 100), BAD);
        due(x.mend(3, 0, 1), BAD);
        due(x.count(4), 1);
        due(x.redo(), 0);
        due(x.of(0, 21), 6);
        due(x.undo(), 1);
        due(x.undo(), 0);
        due(x.undo(), STATE);
        due(x.count(0), 3);
        due(x.count(1), 3);
        due(x.count(2), 2);
        due(x.old(0), 1);
        due(x.near(0), 2);
        due(x.of(1, 3), 2);
        due(x.of(1, 0), 10);
        due(x.of(0, 21), 5);
    }

    private static void keptChanges() {
        sentence("40 at most are kept");
        for (int many : new int[] {39, 40, 41, 42, 80, 81, 95}) {
            ThreeDoors x = path(1);
            for (int k = 1; k <= many; k++) {
                due(x.mend(0, 0, 10 + k % 80), 10 + (k - 1) % 80);
            }
            int kept = Math.min(40, many);
            due(x.count(4), kept);
            for (int k = 1; k <= kept; k++) {
                due(x.undo(), kept - k);
                due(x.of(0, 0), 10 + (many - k) % 80);
            }
            due(x.undo(), STATE);
            due(x.of(0, 0), 10 + (many - kept) % 80);
            for (int k = 1; k <= kept; k++) {
                due(x.redo(), kept - k);
            }
            due(x.redo(), STATE);
            due(x.of(0, 0), 10 + many % 80);
        }

        sentence("40 at most: those UNDONE give way to what came behind");
        ThreeDoors x = path(1);
        for (int k = 1; k <= 40; k++) {
            x.mend(0, 0, 10 + k);
        }
        for (int k = 0; k < 40; k++) {
            x.undo();
        }
        due(x.mend(0, 0, 99), 10);
        due(x.count(4), 1);
        due(x.redo(), STATE);
        due(x.undo(), 0);
        due(x.of(0, 0), 10);
        due(x.redo(), 0);
        for (int k = 1; k <= 40; k++) {
            x.mend(0, 1, k % 2 == 1 ? 9 : 8);
            due(x.count(4), Math.min(40, k + 1));
        }
        for (int k = 39; k >= 0; k--) {
            due(x.undo(), k);
        }
        due(x.of(0, 0), 99);
        due(x.of(0, 1), 0);
    }

    /** Changes of all three sorts, of more than one door and wall, more than are kept. */
    private static void keptChangesOfAllSorts() {
        sentence("CHANGES (PRICE, YEAR of DOORS; COST of WALLS); 40 at most are kept");
        ThreeDoors x = path(2);
        x.wall(1, 0);
        x.wall(100, 0);
        int[][] was = new int[46][];
        was[0] = new int[] {10, 10, 0, 0, 0, 0};
        for (int k = 0; k < 45; k++) {
            int number = k / 3 % 2;
            int v = k % 3 == 1 ? 1 + k % 9 : 40 + k;
            was[k + 1] = was[k].clone();
            was[k + 1][k % 3 * 2 + number] = v;
            due(x.mend(number, k % 3, v), was[k][k % 3 * 2 + number]);
        }
        for (int k = 44; k >= 5; k--) {
            due(x.undo(), k - 5);
            must(Arrays.equals(changeable(x), was[k]), "undone " + k);
        }
        due(x.undo(), STATE);
        for (int k = 5; k < 15; k++) {
            due(x.redo(), 44 - k);
            must(Arrays.equals(changeable(x), was[k + 1]), "done again " + k);
        }
        due(x.mend(1, 2, 99), was[15][5]);
        due(x.redo(), STATE);
        due(x.count(4), 11);
    }

    private static int[] changeable(ThreeDoors x) {
        return new int[] {x.of(0, 0), x.of(1, 0), x.of(0, 1), x.of(1, 1), x.of(0, 21), x.of(1, 21)};
    }
}
