/** Boundaries of layings: which are judged, may be, are found, and what is asked by a told one. */
public final class LayingBoundaryTest extends Boundary {
    public static void main(String[] args) {
        judgedLayings();
        bestLayings();
        greedyAndDry();
        growing();
        breaking();
        byALaying();
        turns();
        askedFirstOrLater();
        end("boundaries of layings");
    }

    private static void judgedLayings() {
        takesBits("JUDGED (any told bits)", Boundary::lone, (x, bits) -> x.judge(bits));

        sentence("no two wells are less than NEAR apart");
        for (int near = 0; near <= 9; near++) {
            for (int apart = 1; apart <= 10; apart++) {
                int want = apart < near ? 100 + apart : NOT;
                due(path(11, "20", near).judge(1 | 1 << apart), want);
            }
        }
        ThreeDoors x = lone(2);
        x.near(9);
        due(x.judge(3), NOT);

        sentence("JUDGED: the first DOOR that has none within REACH: its number");
        due(path(8).judge(0), 0);
        due(path(8).judge(128), 0);
        due(path(8).judge(64), 0);
        due(path(8).judge(1), 4);
        due(path(8).judge(2), 5);
        due(path(14).judge(1 | 16 | 256), 12);
        due(path(13).judge(1 | 16 | 256), 12);
        due(path(12).judge(1 | 16 | 256), NOT);

        sentence("else the first two wells (the lesser, then the other) that are too near");
        due(path(8).judge(3), 5);
        due(path(8).judge(3 | 128), 101);
        x = lone(6);
        x.join(5);
        x.join(102);
        x.near(2);
        due(x.judge(63), 105);
        x.join(3);
        due(x.judge(63), 103);
        due(x.judge(63 & ~8), 105);
        due(x.judge(63 & ~1), 118);
        x = path(14, "20", 2);
        due(x.judge(1 << 12 | 1 << 13), 305);
        due(x.judge(1 << 11 | 1 << 13), NOT);
        due(x.judge(1 << 3 | 1 << 4 | 1 << 5 | 1 << 12), 100 + 16 * 3 + 4);
        due(x.judge(1 << 13), NOT);

        sentence("(any told bits): OLD wells that are not told are none, rock and PRICE do not count");
        x = path(5);
        x.mend(0, 0, 0);
        x.old(16);
        due(x.judge(1), 4);
        due(x.judge(1 | 16), NOT);
        due(x.judge(4), NOT);
        due(x.goes(1, 4), 0);
        due(x.worth(1, 0), 5);
        due(x.steps(1, 0), 10);
        due(x.missed(4), 0);
        due(x.missed(1), STATE);

        sentence("MAY BE: LAWFUL, all OLD wells in it, no other one in rock");
        x = path(2, "3", 0);
        x.mend(0, 0, 0);
        due(x.all(0), 1);
        due(x.all(1), 2);
        due(x.all(2), 1);
        x.old(1);
        due(x.all(0), 2);
        due(x.all(1), 1);
        due(x.all(2), 0);
        x.old(2);
        due(x.all(0), 1);
        x.old(3);
        due(x.all(0), 1);
        due(x.all(1), 3);
        x.mend(0, 0, 1);
        x.old(0);
        due(x.all(0), 3);
        x.mend(0, 0, 0);
        due(x.judge(1), NOT);
        due(x.dry(1, 0, 0), STATE);
        due(x.dry(2, 1, 0), NOT);
    }

    /** Three doors about a fourth one, with a well next door at most, and no two next to one another. */
    private static ThreeDoors star() {
        ThreeDoors x = lone(4);
        x.join(3);
        x.join(103);
        x.join(203);
        x.near(2);
        fed(x, "1");
        return x;
    }

    private static void bestLayings() {
        sentence("FEWEST, MOST wells, CHEAPEST: of all that MAY BE; of like ones the least bits");
        ThreeDoors x = path(4, "3", 2);
        due(x.best(0), 1);
        due(x.best(1), 1 | 4);
        due(x.best(2), 1);
        x.mend(0, 0, 11);
        due(x.best(0), 1);
        due(x.best(2), 2);
        x.mend(1, 0, 0);
        due(x.best(2), 4);
        due(x.best(1), 1 | 4);
        x.mend(0, 0, 0);
        due(x.best(1), 4);
        due(x.best(0), 4);

        sentence("the fewest, the most, the cheapest, though others have less or more bits");
        x = star();
        due(x.best(0), 8);
        due(x.best(1), 7);
        due(x.best(2), 8);
        due(x.all(0), 2);
        x.mend(3, 0, 30);
        due(x.best(2), 7);
        x.mend(3, 0, 29);
        due(x.best(2), 8);
        due(x.grow(), 8);
        x.wall(1, 1);
        due(x.breaks(1), 1);

        sentence("CHEAPEST (the sum of PRICES of wells that are not OLD)");
        x = path(3, "1", 0);
        x.mend(1, 0, 20);
        due(x.best(2), 2);
        x.mend(1, 0, 21);
        due(x.best(2), 1 | 4);
        x.old(2);
        due(x.best(2), 2);
        x.mend(1, 0, 19);
        x.old(4);
        due(x.best(2), 1 | 4);
        x.mend(0, 0, 20);
        due(x.best(2), 2 | 4);
        x.mend(0, 0, 19);
        due(x.best(2), 1 | 4);
        x = path(14, "0", 0);
        due(x.best(2), 16383);

        sentence("the one of no DOORS");
        x = new ThreeDoors();
        for (int what = 0; what <= 2; what++) {
            due(x.best(what), 0);
        }
        due(x.all(0), 1);
        due(x.all(1), 0);
        due(x.all(2), 0);
        due(x.even(), 0);
        due(x.greedy(0), 0);
        due(x.greedy(1), NOT);
        due(x.grow(), 0);
        due(x.breaks(0), NOT);
        due(x.breaks(1), NOT);

        sentence("NOT: none MAY BE");
        x = path(2, "3", 0);
        x.mend(0, 0, 0);
        x.mend(1, 0, 0);
        for (int what = 0; what <= 2; what++) {
            due(x.best(what), NOT);
        }
        due(x.all(0), 0);
        due(x.all(1), NOT);
        due(x.all(2), NOT);
        due(x.even(), NOT);
        due(x.grow(), NOT);
        x.mend(1, 0, 1);
        for (int what = 0; what <= 2; what++) {
            due(x.best(what), 2);
        }
        due(x.even(), 2);
        due(x.grow(), 2);

        sentence("HOW MANY MAY BE; DOORS with a well in all of them; in none");
        x = path(14, "13", 0);
        due(x.all(0), 16383);
        due(x.all(1), 0);
        due(x.all(2), 0);
        due(x.best(0), 1);
        due(x.best(1), 16383);
        x.old(1);
        due(x.all(0), 8192);
        due(x.all(1), 1);
        x.old(1 << 13);
        due(x.all(0), 8192);
        due(x.all(1), 1 << 13);
        x.near(9);
        due(x.all(0), 6);
        due(x.all(2), 0x1fe0);
        x.old(16383);
        x.near(0);
        due(x.all(0), 1);
        due(x.all(1), 16383);
        due(x.all(2), 0);
        x = lone(14);
        due(x.all(0), 1);
        due(x.all(1), 16383);
        due(x.all(2), 0);

        sentence("EVEN: the one with the least bits in which each DOOR has just one well within its REACH");
        due(path(1).even(), 1);
        due(path(4, "3", 0).even(), 1);
        due(path(5, "3", 0).even(), 2);
        due(path(3, "1", 0).even(), 2);
        due(path(4, "1", 0).even(), 1 | 8);
        x = path(3, "1", 0);
        x.old(1 | 4);
        due(x.even(), NOT);
        due(x.best(0), 1 | 4);
        x = path(14, "0", 0);
        due(x.even(), 16383);
        x.mend(13, 0, 0);
        due(x.even(), NOT);
    }

    private static void greedyAndDry() {
        sentence("GREEDY: one that has none digs at its own, if that is no rock and no well would be too near");
        ThreeDoors x = path(5);
        due(x.greedy(0), 1 | 16);
        due(x.greedy(1), NOT);
        x.near(5);
        due(x.greedy(0), 1);
        due(x.greedy(1), 4);
        x.near(4);
        x.mend(4, 0, 0);
        due(x.greedy(0), 1);
        due(x.greedy(1), 4);
        x.mend(4, 0, 1);
        due(x.greedy(0), 1 | 16);
        due(path(4).greedy(0), 1);
        x.mend(0, 0, 0);
        due(x.greedy(0), 2);
        due(x.greedy(1), 0);

        sentence("else it is STUCK, and it goes on: the first that was STUCK");
        x = lone(14);
        x.mend(3, 0, 0);
        x.mend(13, 0, 0);
        due(x.greedy(0), 16383 & ~8 & ~8192);
        due(x.greedy(1), 3);
        x.mend(3, 0, 1);
        due(x.greedy(1), 13);
        x.old(8192);
        due(x.greedy(0), 16383);
        due(x.greedy(1), NOT);

        sentence("DRY: a well (told) is no more, and none can be dug there; unlike (but for that one)");
        x = path(2, "3", 0);
        due(x.dry(1, 0, 0), 2);
        due(x.dry(1, 0, 1), 1);
        due(x.dry(3, 0, 0), 2);
        due(x.dry(3, 0, 1), 0);
        due(x.dry(3, 1, 0), 1);
        due(x.dry(3, 1, 1), 0);
        x.mend(1, 0, 0);
        due(x.dry(1, 0, 0), NOT);
        due(x.dry(1, 0, 1), NOT);

        sentence("(if it was OLD, it is not)");
        x = path(3, "3", 0);
        x.old(1);
        due(x.dry(1, 0, 0), 2);
        due(x.dry(1, 0, 1), 1);
        x.old(5);
        due(x.dry(5, 0, 0), 4);
        due(x.dry(5, 0, 1), 0);
        due(x.old(5), 5);
        for (int door = 0; door < 3; door++) {
            x = path(3, "3", 0);
            x.old(1 << door);
            due(x.dry(1 << door, door, 0), door == 0 ? 2 : 1);
            due(x.dry(7, door, 0), 7 & ~(1 << door));
            x.old(7);
            due(x.dry(7, door, 0), 7 & ~(1 << door));
            fed(x, "o?3;9");
            due(x.dry(7, door, 1), 0);
        }

        sentence("the fewest DOORS at which it is unlike the told one; of like ones the least bits");
        x = path(5, "1", 0);
        due(x.dry(1 | 8, 0, 0), 2 | 8);
        due(x.dry(1 | 8, 3, 0), 1 | 2 | 16);
        due(x.dry(1 | 8, 3, 1), 2);
        due(x.dry(2 | 16, 4, 0), 2 | 8);
        due(x.dry(31, 2, 0), 27);
        x = path(4, "3", 0);
        due(x.dry(2, 1, 0), 1);
        due(x.dry(8, 3, 0), 1);
        x.mend(0, 0, 0);
        due(x.dry(2, 1, 0), 4);

        sentence("DRY. BAD (no well there, too); STATE: the told one may not be; NOT: none MAY BE then.");
        x = path(5);
        due(x.dry(1, 1, 0), BAD);
        due(x.dry(1, 0, 0), STATE);
        due(x.dry(2, 1, 0), 4);
        x = lone(1);
        due(x.dry(0, 0, 0), BAD);
        due(x.dry(1, 0, 0), NOT);
        due(x.dry(1, 0, 1), NOT);
        x = path(14, "13", 0);
        due(x.dry(1 << 13, 13, 0), 1);
        due(x.dry(1 << 13, 13, 1), 1);
        due(x.dry(16383, 13, 0), 8191);
        due(x.dry(16383, 0, 1), 0);
        due(x.dry(1, 13, 0), BAD);
        due(x.dry(1, 14, 0), BAD);
    }

    private static void growing() {
        sentence("GROW. STATE: more than 9 DOORS");
        due(path(9).grow(), 1 | 32);
        due(path(10).grow(), STATE);
        due(path(14).grow(), STATE);
        due(lone(9).grow(), 511);
        due(path(8).grow(), 1 | 16);
        due(path(1).grow(), 1);

        sentence("in YEAR y (0 .. 9) those DOORS are there whose YEAR is y or less");
        for (int year = 0; year <= 9; year++) {
            ThreeDoors x = path(2, "1", 2);
            x.mend(0, 1, year);
            x.mend(1, 1, 9 - year);
            due(x.grow(), year <= 9 - year ? 1 : 2);
            x.mend(1, 1, year);
            due(x.grow(), 1);
            x.mend(0, 1, Math.min(9, year + 1));
            due(x.grow(), year == 9 ? 1 : 2);
        }

        sentence("with JOINS among them (FAR by these alone)");
        ThreeDoors x = path(3, "2", 0);
        due(x.grow(), 1);
        x.mend(1, 1, 1);
        due(x.grow(), 1 | 4);
        x.near(3);
        due(x.grow(), NOT);
        x.near(2);
        due(x.grow(), 1 | 4);

        sentence("OLD wells of DOORS that are there; none: no wells");
        x = path(1);
        x.mend(0, 1, 9);
        due(x.grow(), 1);
        x.mend(0, 0, 0);
        due(x.grow(), NOT);
        x.old(1);
        due(x.grow(), 1);
        x = path(2, "1", 2);
        x.mend(1, 1, 9);
        x.old(2);
        due(x.grow(), NOT);
        x.near(0);
        due(x.grow(), 3);

        sentence("From YEAR to YEAR wells only come; no other one in rock");
        x = path(4, "1", 3);
        due(x.grow(), 1 | 8);
        x.mend(2, 1, 1);
        x.mend(3, 1, 1);
        due(x.grow(), 1 | 8);
        x.mend(0, 0, 0);
        due(x.grow(), NOT);
        x.near(2);
        due(x.grow(), 2 | 8);
        x.mend(3, 0, 0);
        due(x.grow(), NOT);
        x.near(1);
        due(x.grow(), 2 | 4);

        sentence("The fewest wells in YEAR 9, of like ones the least bits");
        x = path(9, "1", 0);
        due(x.grow(), 2 | 16 | 128);
        x.mend(4, 0, 0);
        due(x.grow(), 1 | 4 | 32 | 128);

        sentence("(j of THE LAW counts all JOINS.)");
        x = path(3, "j=2?0;2", 0);
        due(x.grow(), 2);
        x.mend(0, 1, 9);
        x.mend(2, 1, 9);
        due(x.grow(), 2);
        x = path(3, "j=1?0;2", 0);
        x.mend(1, 1, 9);
        due(x.grow(), 1 | 4);
        x = path(2, "j=1?0;2", 0);
        x.mend(1, 1, 9);
        due(x.grow(), 3);
        x = path(2, "j?0;2", 0);
        x.mend(0, 1, 9);
        due(x.grow(), 3);
    }

    private static void breaking() {
        sentence("BREAK: of WALLS that which, were it a JOIN, makes FEWEST least; that number");
        ThreeDoors x = path(8);
        due(x.breaks(0), NOT);
        x.wall(1, 1);
        due(x.breaks(0), 0);
        due(x.breaks(1), 2);
        x.wall(7, 99);
        due(x.breaks(0), 0);
        x.wall(5, 99);
        x.old(1);
        due(x.breaks(1), 1);
        due(x.breaks(0), 2);

        sentence("were it a JOIN: of one more of them at both its DOORS");
        ThreeDoors two = lone(2);
        two.near(0);
        two.wall(100, 1);
        String[] laws = {"j=1?1;0", "j?1;0", "j=2?1;0", "j=0?1;0", "1"};
        int[] many = {1, 1, 2, 2, 1};
        for (int k = 0; k < laws.length; k++) {
            fed(two, laws[k]);
            due(two.breaks(1), many[k]);
            due(two.of(0, 2), 0);
            due(two.far(1), 99);
        }

        sentence("(then by COST, then the first)");
        x.wall(500, 99);
        due(x.breaks(0), 2);
        x.mend(3, 2, 98);
        due(x.breaks(0), 3);
        x.mend(2, 2, 98);
        due(x.breaks(0), 2);
        x.mend(2, 2, 97);
        due(x.breaks(0), 2);
        x.mend(0, 2, 0);
        due(x.breaks(0), 2);

        sentence("(of those by which any MAY BE). NOT: there is none by which any MAY BE.");
        x = lone(3);
        x.near(2);
        x.old(3);
        x.wall(1, 0);
        due(x.breaks(0), NOT);
        due(x.breaks(1), NOT);
        x.wall(2, 99);
        due(x.breaks(0), 1);
        due(x.breaks(1), 2);
        x = lone(2);
        x.wall(1, 0);
        x.mend(0, 0, 0);
        x.mend(1, 0, 0);
        due(x.breaks(0), NOT);
        x.old(1);
        due(x.breaks(0), 0);
        due(x.breaks(1), 1);

        sentence("the last WALL of ten, and the most wells");
        x = lone(14);
        for (int k = 0; k < 10; k++) {
            x.wall(100 * k + k + 1, k == 9 ? 0 : 1);
        }
        due(x.breaks(0), 9);
        due(x.breaks(1), 13);
        due(x.count(1), 0);
        due(x.far(910), 99);
        x = lone(14);
        x.old(16383);
        x.near(1);
        x.wall(1, 5);
        due(x.breaks(1), 14);
        due(x.breaks(0), 0);
    }

    private static void byALaying() {
        sentence("GOES: the least FAR (99: NOT), then the least number");
        ThreeDoors x = path(13);
        x.door(1, 0);
        due(x.goes(1, 12), 0);
        due(x.goes(1, 13), NOT);
        due(x.goes(8192, 13), 13);
        due(x.goes(8192, 0), NOT);
        due(x.goes(0, 0), NOT);
        due(x.goes(1 | 4, 1), 0);
        due(x.goes(1 | 8, 1), 0);
        due(x.goes(1 | 8, 2), 3);
        due(x.goes(16383, 13), 13);
        due(x.goes(8191, 13), NOT);

        sentence("WORTH of a well: how many DOORS go there");
        due(x.worth(1, 0), 13);
        due(x.worth(8192, 13), 1);
        due(x.worth(1 | 4, 0), 2);
        due(x.worth(1 | 4, 2), 11);
        due(x.worth(16383, 5), 1);
        due(path(14).worth(1, 0), 14);
        due(path(2).worth(1, 1), BAD);
        due(path(2).worth(0, 0), BAD);

        sentence("SUM of all steps to wells (DOORS that go), the GREATEST (a DOOR that can't: 99)");
        due(x.steps(1, 0), 78);
        due(x.steps(1, 1), 99);
        due(x.steps(1 | 8192, 0), 78);
        due(x.steps(1 | 8192, 1), 12);
        due(x.steps(0, 0), 0);
        due(x.steps(0, 1), 99);
        due(x.steps(16383, 0), 0);
        due(x.steps(16383, 1), 0);
        due(path(14).steps(1, 0), 91);
        due(path(14).steps(1, 1), 13);

        due(path(14).steps(8192, 0), 91);
        due(path(14).steps(8192, 1), 13);
        x = path(2);
        due(x.steps(2, 0), 1);
        due(x.steps(1, 0), 1);
        x.door(1, 0);
        due(x.steps(4, 0), 0);
        due(x.steps(4, 1), 99);
        x = lone(2);
        due(x.steps(2, 0), 0);
        due(x.steps(2, 1), 99);
        due(x.steps(1, 1), 99);

        sentence("the GREATEST (1; 0 without DOORS)");
        x = new ThreeDoors();
        due(x.steps(0, 0), 0);
        due(x.steps(0, 1), 0);

        sentence("MISSED: wells without which it would be LAWFUL just the same, each by itself, if it is LAWFUL");
        x = path(2, "3", 0);
        due(x.missed(3), 3);
        due(x.missed(1), 0);
        due(x.missed(0), STATE);
        x.old(3);
        due(x.missed(3), 3);
        x.mend(0, 0, 0);
        due(x.missed(1), 0);
        x.near(2);
        due(x.missed(3), STATE);
        due(path(14, "13", 0).missed(16383), 16383);
        due(path(14, "0", 0).missed(16383), 0);
        due(new ThreeDoors().missed(0), 0);

        stood();
    }

    private static void stood() {
        sentence("STOOD: FAR to the wells of a told LAYING, the least number first");
        ThreeDoors x = path(13);
        x.door(1, 0);
        bytes(x, 0, 0, 12);
        due(x.stood(0, 1 | 1 << 12), 1);
        bytes(x, 0, 12, 0);
        due(x.stood(0, 1 | 1 << 12), 1 << 12);
        bytes(x, 0, 99, 0);
        due(x.stood(0, 1 | 1 << 13), 1 << 13);
        bytes(x, 0, 99);
        due(x.stood(0, 1), 1 << 13);
        due(x.stood(0, 1 << 13), 8191);
        bytes(x, 0, -1);
        due(x.stood(0, 1), 0);
        bytes(x, 0, 98);
        due(x.stood(0, 1 << 13), 0);

        sentence("DOORS (bits) at which all are so");
        bytes(x, 0, 1, 1);
        due(x.stood(0, 1 | 4), 2);
        bytes(x, 0, 1, 2);
        due(x.stood(0, 1 | 4), 0);
        bytes(x, 0, 2, 0);
        due(x.stood(0, 1 | 4), 4);

        sentence("(The ROW may be longer.) -13 (it has fewer than there are wells).");
        bytes(x, 0, 1, 1, 77);
        due(x.stood(0, 1 | 4), 2);
        due(x.stood(0, 1), 2);
        due(x.stood(0, 1 | 4 | 16), 0);
        due(x.stood(0, 1 | 4 | 16 | 32), -13);
        due(x.stood(0, 0), 16383);
        x.row(0, 0, 0);
        due(x.stood(0, 0), 16383);
        due(x.stood(0, 1), -13);
        x.row(0, 0, 60);
        due(x.stood(0, 1), 1);
        x.row(0, 0, 13);
        due(x.stood(0, 16383), -13);
        due(x.stood(0, 8191), 0);
        x.row(0, 0, 14);
        due(x.stood(0, 16383), 0);

        takesBits("STOOD", Boundary::withARow, (town, bits) -> town.stood(0, bits));
    }

    private static void turns() {
        sentence("TURNS: digs, if its PRICE is no more than a told one (0 .. 99)");
        for (int price : new int[] {1, 2, 50, 98, 99}) {
            ThreeDoors x = new ThreeDoors();
            x.door(price, 0);
            due(x.turn(price, 0), 1);
            due(x.turn(price, 1), 1);
            due(x.turn(price - 1, 0), 0);
            due(x.turn(price - 1, 1), 0);
            due(x.turn(99, 0), 1);
        }
        ThreeDoors x = new ThreeDoors();
        x.door(0, 0);
        due(x.turn(0, 0), 0);
        due(x.turn(99, 1), 0);

        sentence("one without a well within REACH, and at which one may be dug lawfully for NEAR");
        x = path(5);
        due(x.turn(10, 1), 1 | 16);
        x.near(5);
        due(x.turn(10, 1), 1);
        due(x.turn(10, 0), 1);
        x.old(1);
        due(x.turn(10, 0), 0);
        due(x.turn(10, 1), 1);
        x.near(4);
        due(x.turn(10, 0), 1);
        due(x.turn(10, 1), 1 | 16);
        due(path(4).turn(10, 1), 1);

        sentence("how many dug; the wells");
        x = lone(14);
        due(x.turn(99, 0), 14);
        due(x.turn(99, 1), 16383);
        x.old(16383);
        due(x.turn(99, 0), 0);
        x.old(1);
        due(x.turn(99, 0), 13);
        due(new ThreeDoors().turn(99, 0), 0);
        due(new ThreeDoors().turn(99, 1), 0);
    }

    private interface Asked {
        long of(ThreeDoors x);
    }

    /** Each asking call answers of the town as it is: as an object's first call, and behind others. */
    private static void askedFirstOrLater() {
        sentence("what is asked is asked of the town as it is");
        Asked[] asked = {x -> x.far(4), x -> x.judge(1), x -> x.best(0), x -> x.best(1), x -> x.best(2),
            x -> x.all(0), x -> x.all(1), x -> x.all(2), ThreeDoors::even, x -> x.greedy(0), x -> x.greedy(1),
            x -> x.dry(2, 1, 0), ThreeDoors::grow, x -> x.breaks(0), x -> x.breaks(1), x -> x.goes(17, 2),
            x -> x.worth(17, 0), x -> x.worth(17, 4), x -> x.steps(17, 0), x -> x.steps(1, 1), x -> x.missed(17),
            x -> x.stood(0, 1), x -> x.turn(10, 0), x -> x.turn(10, 1), x -> x.of(0, 3)};
        long[] due = {3, 3, 2, 26, 2, 5, 0, 1, 2, 2, 0, 4, 2, 0, 1, 4, 2, 3, 4, 3, 0, 2, 1, 2, 2};
        for (int k = 0; k < asked.length; k++) {
            due(asked[k].of(askedTown()), due[k]);
            for (Asked before : asked) {
                ThreeDoors x = askedTown();
                x.join(4);
                before.of(x);
                due(asked[k].of(x), asked[k].of(withOneMore()));
            }
        }
    }

    private static ThreeDoors withOneMore() {
        ThreeDoors x = askedTown();
        x.join(4);
        return x;
    }

    private static ThreeDoors askedTown() {
        ThreeDoors x = path(4, "2", 2);
        x.door(10, 9);
        x.join(204);
        x.wall(4, 9);
        x.mend(0, 0, 0);
        bytes(x, 0, 1);
        return x;
    }
}
