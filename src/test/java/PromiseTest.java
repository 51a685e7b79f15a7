/** Each promise by itself, in its order: what it gives of ordinary inputs, at the edges, and of wrong inputs. */
public final class PromiseTest {
    private static final int LEAST = Integer.MIN_VALUE, GREATEST = Integer.MAX_VALUE;
    private static int wrong = 0;
    private static int promise = 0;
    private static int row = 0;

    public static void main(String[] args) {
        town();
        law();
        layings();
        byALaying();
        acts();
        shelves();
        System.out.println(wrong == 0 ? "promises: all as due" : "promises: " + wrong + " rows are not as due");
        if (wrong != 0) {
            System.exit(1);
        }
    }

    private static void promise(int number) {
        promise = number;
        row = 0;
    }

    private static void due(long got, long want) {
        row++;
        if (got != want) {
            wrong++;
            System.out.println("promise " + promise + ", row " + row + ": answered " + got + ", due is " + want);
        }
    }

    /** A town of so many doors of price 10 and year 0, each joined with the next. */
    private static ThreeDoors path(int doors) {
        ThreeDoors x = new ThreeDoors();
        for (int d = 0; d < doors; d++) {
            x.door(10, 0);
        }
        for (int d = 0; d + 1 < doors; d++) {
            x.join(100 * d + d + 1);
        }
        return x;
    }

    private static int fed(ThreeDoors x, String text) {
        for (int k = 0; k < text.length(); k++) {
            x.feed(text.charAt(k));
        }
        return x.law();
    }

    private static void bytes(ThreeDoors x, int shelf, int... values) {
        x.row(shelf, 0, values.length);
        for (int k = 0; k < values.length; k++) {
            x.put(shelf, k, values[k]);
        }
    }

    private static String times(String text, int many) {
        StringBuilder all = new StringBuilder();
        for (int k = 0; k < many; k++) {
            all.append(text);
        }
        return all.toString();
    }

    private static void town() {
        promise(1);
        ThreeDoors x = new ThreeDoors();
        for (int what = 0; what <= 6; what++) {
            due(x.count(what), 0);
        }
        due(x.of(0, 0), -1);
        due(x.old(0), 0);
        due(x.near(4), 4);
        due(x.element(0, 0), Long.MIN_VALUE);
        due(x.put(5, 0, 1), -11);

        promise(2);
        due(x.door(0, 0), 0);
        due(x.door(99, 9), 1);
        for (int[] bad : new int[][] {{-1, 0}, {100, 0}, {0, -1}, {0, 10}, {LEAST, LEAST}, {GREATEST, GREATEST}}) {
            due(x.door(bad[0], bad[1]), -1);
        }
        due(x.count(0), 2);
        for (int d = 2; d < 14; d++) {
            due(x.door(d, 1), d);
        }
        due(x.door(5, 5), -3);
        due(x.door(100, 5), -1);
        due(x.count(0), 14);

        promise(3);
        due(x.join(1), 0);
        due(x.join(100), 1);
        due(x.join(1), 2);
        due(x.join(1312), 3);
        for (int bad : new int[] {0, 101, 1313, 14, 1400, -1, -100, 99, LEAST, GREATEST}) {
            due(x.join(bad), -1);
        }
        for (int k = 4; k < 40; k++) {
            due(x.join(203), k);
        }
        due(x.join(203), -3);
        due(x.join(202), -1);
        due(x.count(1), 40);
        due(x.far(203), 1);
        due(x.far(12), 99);

        promise(4);
        joinsFromRows();

        promise(5);
        x = path(3);
        due(x.wall(2, 0), 0);
        due(x.wall(200, 99), 1);
        for (int bad : new int[] {0, 3, 300, -1, 202, LEAST, GREATEST}) {
            due(x.wall(bad, 1), -1);
        }
        due(x.wall(1, -1), -1);
        due(x.wall(1, 100), -1);
        for (int k = 2; k < 10; k++) {
            due(x.wall(1, k), k);
        }
        due(x.wall(1, 1), -3);
        due(x.wall(1, 100), -1);
        due(x.count(2), 10);
        due(x.far(2), 2);
        due(x.count(1), 2);

        promise(6);
        x = path(3);
        due(x.old(7), 0);
        due(x.old(8), -1);
        due(x.old(-1), -1);
        due(x.old(LEAST), -1);
        due(x.old(5), 7);
        due(x.old(0), 5);
        due(x.count(4), 0);

        promise(7);
        due(x.near(0), 4);
        due(x.near(9), 0);
        due(x.near(10), -1);
        due(x.near(-1), -1);
        due(x.near(GREATEST), -1);
        due(x.near(3), 9);

        mendsAndOf();

        promise(12);
        x = path(14);
        due(x.far(13), 13);
        due(x.far(1300), 13);
        due(x.far(707), 0);
        due(x.far(1400), -1);
        due(x.far(14), -1);
        due(x.far(-1), -1);
        due(x.far(LEAST), -1);
        due(x.far(GREATEST), -1);
        due(x.join(13), 13);
        due(x.far(13), 1);
        due(x.far(7), 7);
        due(x.far(8), 6);
    }

    private static void joinsFromRows() {
        ThreeDoors x = path(0);
        for (int d = 0; d < 5; d++) {
            x.door(10, 0);
        }
        due(x.joins(0, 0, 1), 0);
        due(x.joins(0, -1, 1), 0);
        bytes(x, 0, 0, 1, 2, 3, 4, 4, 0, 2, 9);
        due(x.joins(0, 0, 30), 2);
        due(x.of(0, 10), 1);
        due(x.of(1, 10), 203);
        due(x.joins(0, 1, 1), 1);
        due(x.of(2, 10), 102);
        due(x.joins(0, 6, 1), 1);
        due(x.joins(0, 6, 2), 1);
        due(x.joins(0, 8, 1), 0);
        due(x.joins(0, 9, 1), 0);
        due(x.joins(0, GREATEST, 30), 0);
        due(x.joins(0, LEAST, 30), 0);
        due(x.joins(0, -2, 30), 0);
        due(x.count(1), 5);
        due(x.joins(-1, 0, 1), -1);
        due(x.joins(6, 0, 1), -1);
        due(x.joins(0, 0, 0), -1);
        due(x.joins(0, 0, 31), -1);
        due(x.joins(0, -1, 31), -1);
        due(x.joins(1, 0, 31), -1);
        bytes(x, 1, 0, 101, -1, 1, 1, 5, 5, 1, 256, 257);
        due(x.joins(1, 0, 1), 0);
        due(x.joins(1, 2, 1), 0);
        due(x.joins(1, 4, 1), 0);
        due(x.joins(1, 6, 1), 0);
        due(x.joins(1, 8, 1), 1);
        for (int sort = 1; sort <= 4; sort++) {
            x.row(2, sort, 4);
            due(x.joins(2, 0, 1), -12);
        }
        x.body(0);
        x.keep(2, 0);
        due(x.joins(2, 0, 1), -12);
        due(x.joins(2, 0, 0), -1);
        x.row(3, 0, 60);
        for (int k = 1; k < 60; k += 2) {
            x.put(3, k, 1);
        }
        due(x.joins(3, 0, 30), 30);
        due(x.joins(3, 0, 30), 4);
        due(x.joins(3, 0, 30), 0);
        due(x.count(1), 40);
        due(x.of(39, 10), 1);
    }

    private static void mendsAndOf() {
        promise(8);
        ThreeDoors x = path(2);
        x.wall(1, 50);
        due(x.mend(0, 0, 0), 10);
        due(x.mend(0, 0, 99), 0);
        due(x.mend(1, 1, 9), 0);
        due(x.mend(0, 2, 0), 50);
        due(x.mend(0, 2, 99), 0);
        int[][] bads = {{2, 0, 1}, {-1, 0, 1}, {0, 0, -1}, {0, 0, 100}, {2, 1, 1}, {0, 1, -1}, {0, 1, 10}, {1, 2, 1},
            {-1, 2, 1}, {0, 2, -1}, {0, 2, 100}, {0, 3, 1}, {0, -1, 1}, {LEAST, 1, 1}, {GREATEST, 0, 1}};
        for (int[] bad : bads) {
            due(x.mend(bad[0], bad[1], bad[2]), -1);
        }
        due(x.count(4), 5);
        due(x.of(0, 0), 99);
        due(x.of(1, 1), 9);
        due(x.of(0, 21), 99);

        promise(9);
        due(x.of(1, 0), 10);
        due(x.of(0, 1), 0);
        due(x.of(0, 2), 1);
        due(x.of(0, 3), 3);
        x.join(100);
        due(x.of(0, 2), 2);
        due(x.of(1, 2), 2);
        due(x.of(1, 10), 100);
        due(x.of(0, 20), 1);
        for (int[] bad : new int[][] {{2, 0}, {2, 1}, {2, 2}, {2, 3}, {-1, 0}, {-1, 3}, {2, 10}, {-1, 10}, {1, 20},
            {1, 21}, {-1, 20}, {-1, 21}, {0, 4}, {0, -1}, {0, 9}, {0, 11}, {0, 19}, {0, 22}, {LEAST, LEAST}}) {
            due(x.of(bad[0], bad[1]), -1);
        }

        promise(27);
        x = path(2);
        x.wall(1, 5);
        due(x.undo(), -5);
        due(x.redo(), -5);
        x.mend(0, 0, 11);
        x.mend(0, 1, 2);
        x.mend(0, 2, 6);
        x.mend(0, 0, 12);
        due(x.undo(), 3);
        due(x.of(0, 0), 11);
        due(x.undo(), 2);
        due(x.of(0, 21), 5);
        due(x.undo(), 1);
        due(x.of(0, 1), 0);
        due(x.undo(), 0);
        due(x.of(0, 0), 10);
        due(x.undo(), -5);
        promise(28);
        due(x.redo(), 3);
        due(x.of(0, 0), 11);
        due(x.redo(), 2);
        due(x.of(0, 1), 2);
        due(x.count(4), 2);
        due(x.mend(0, 0, 200), -1);
        due(x.redo(), 1);
        due(x.of(0, 21), 6);
        x.mend(1, 0, 3);
        due(x.redo(), -5);
        due(x.of(0, 0), 11);
        due(x.undo(), 3);
        due(x.old(1), 0);
        due(x.redo(), 0);
        due(x.of(1, 0), 3);
        due(x.redo(), -5);
        promise(27);
        x = path(1);
        for (int k = 0; k < 42; k++) {
            x.mend(0, 0, 20 + k);
            due(x.count(4), Math.min(40, k + 1));
        }
        for (int k = 39; k >= 0; k--) {
            due(x.undo(), k);
            due(x.of(0, 0), 20 + k + 1);
        }
        due(x.undo(), -5);
        for (int k = 39; k >= 0; k--) {
            due(x.redo(), k);
            due(x.of(0, 0), 61 - k);
        }
        unchanged();
    }

    /** What becomes what it was is no change: nothing more may be undone, and what may be done again stays so. */
    private static void unchanged() {
        promise(27);
        ThreeDoors x = path(2);
        x.wall(1, 5);
        int[][] same = {{0, 0, 10}, {1, 1, 0}, {0, 2, 5}};
        for (int[] mend : same) {
            due(x.mend(mend[0], mend[1], mend[2]), mend[2]);
            due(x.count(4), 0);
            due(x.undo(), -5);
        }
        x.mend(0, 0, 11);
        x.mend(0, 0, 11);
        x.mend(1, 1, 3);
        x.mend(0, 2, 6);
        due(x.count(4), 3);
        promise(28);
        due(x.undo(), 2);
        due(x.undo(), 1);
        for (int[] mend : new int[][] {{0, 0, 11}, {1, 1, 0}, {0, 2, 5}}) {
            due(x.mend(mend[0], mend[1], mend[2]), mend[2]);
        }
        due(x.redo(), 1);
        due(x.mend(1, 1, 3), 3);
        due(x.redo(), 0);
        due(x.redo(), -5);
        due(x.of(0, 21), 6);
        promise(27);
        due(x.undo(), 2);
        due(x.undo(), 1);
        due(x.undo(), 0);
        due(x.of(0, 0), 10);
        due(x.undo(), -5);
        x = path(1);
        for (int k = 0; k < 40; k++) {
            x.mend(0, 0, 20 + k);
        }
        due(x.mend(0, 0, 59), 59);
        for (int k = 39; k >= 0; k--) {
            due(x.undo(), k);
        }
        due(x.of(0, 0), 10);
    }

    private static void reachIs(String text, int want) {
        // door 2 of price 7 and year 5, with an old well, and two joins
        ThreeDoors x = new ThreeDoors();
        x.door(1, 0);
        x.door(1, 0);
        x.door(7, 5);
        x.join(2);
        x.join(201);
        x.old(4);
        due(fed(x, text), 1);
        due(x.of(2, 3), want);
        due(x.count(3), 0);
    }

    private static void faultIs(String text, int fault) {
        ThreeDoors x = path(1);
        fed(x, "8");
        due(fed(x, text), -100 - fault);
        due(x.count(3), 0);
        due(x.of(0, 3), 8);
    }

    private static void law() {
        promise(10);
        ThreeDoors x = path(1);
        for (int bad : new int[] {-1, 256, LEAST, GREATEST}) {
            due(x.feed(bad), -1);
        }
        due(x.feed(0), 1);
        due(x.feed(255), 2);
        due(x.law(), -100);
        for (int k = 1; k <= 120; k++) {
            due(x.feed(k % 2 == 1 ? '1' : k == 120 ? ';' : '+'), k);
        }
        due(x.feed('1'), -3);
        due(x.feed(256), -1);
        due(x.count(3), 120);
        due(x.law(), -220);
        due(x.count(3), 0);
        due(fed(x, "1" + times("+1", 59) + "0"), 1);
        due(x.of(0, 3), 20);
        due(fed(x, times("0?9;", 29) + "0+17"), 1);
        due(x.of(0, 3), 17);

        promise(11);
        String[] texts = {"d:2", "p:7", "y:5", "j:2", "o:1", "0007:7", "9999:20", "0-1:0", "0:0", "20:20", "21:20",
            "-5:0", "--5:5", "!0:1", "!7:0", "!!7:1", "-!0+3:2", "2+3*4:14", "10-3-2:5", "17/5:3", "17%5:2",
            "-17/5+9:6", "-17%5+9:7", "5/0:0", "5%0:0", "7+5/0:7", "24/4/2:3", "24/4*2:12", "2*7%4:2", "1<2:1",
            "2<1:0", "2<2:0", "2=2:1", "2=3:0", "3>2:1", "2>2:0", "2>3:0", "0|0:0", "0|5:1", "5|0:1", "3|4:1", "3&4:1",
            "3&0:0", "0&3:0", "0&0:0", "1|0&0:1", "(1|0)&0:0", "1+1=2:1", "1=1+1:0", "1&2<3:1", "2=1|7:1",
            "2=1&9|6:1", "(1<2)<3:1", "1<(3<2):0", "(2+3)*4:20", "d*10+p-y:20", "d*5+p-y:12", "1?5;9:5", "0?5;9:9",
            "0?5:0", "o=0?5;o=1?6;7:6", "0?1;0?2:0", "1?0;7:0", "5;6:5", "1-1?2;j=2?11;4:11", "p>6&y<6?d*3;1:6",
            "12?13:13", "(1<2)+(3>2)+(0=0):3", "7-2*3:1", "(7-2)*3:15", "-d+9:7", "!d+9:9", "-2*-3:6", "7*-1+9:2",
            "6553*0:0", "3?0-4;5:0", "9-(4-3):8", "1|1+1:1", "8/3*3:6", "0-7/2+9:6", "-7/2+9:6", "1/!0:1", "1*-2:0",
            "(((((3))))):3", "((((((4)))))):4", "!-!-!-1:0", "!-!-!-0:1", "-(-(-(0-6))):6", "------1:1",
            "1-------1:0", "-1+------9:8", "(((1)))+((((((2)))))):3", "0?9999;1?(j+1)*(o+1);5:6"};
        for (String text : texts) {
            int colon = text.indexOf(':');
            reachIs(text.substring(0, colon), Integer.parseInt(text.substring(colon + 1)));
        }
        // 9999 * 9999 is 99980001: by 21 it is an int still, by 22 and 30 it wraps below 0, by 60 above it again
        reachIs("9999*9999*21", 20);
        reachIs("9999*9999*22", 0);
        reachIs("9999*9999*30", 0);
        reachIs("9999*9999*60", 20);
        // the least int, by -1: it stays as it is
        reachIs("(0-2048*2048*512)/(0-1)<0", 1);
        reachIs("(0-2048*2048*512)%(0-1)+4", 4);

        Object[][] faults = {{"", 0}, {"q", 0}, {" 1", 0}, {"1 ", 1}, {"1 +1", 1}, {"+1", 0}, {"1+", 2}, {"1++1", 2},
            {"12345", 4}, {"1<2<3", 3}, {"1=2>3", 3}, {"(1<2<3)", 4}, {"1?2?3", 3}, {"(1?2)", 2}, {"1;", 2},
            {"1;;2", 2}, {";1", 0}, {"1?", 2}, {"?1", 0}, {"1?;2", 2}, {"()", 1}, {"(1", 2}, {"1)", 1}, {"(1))", 3},
            {"d1", 1}, {"1d", 1}, {"dd", 1}, {"D", 0}, {"!", 1}, {"-", 1}, {"1!", 1}, {"1(2)", 1}, {"(1)(2)", 3},
            {"(((((((1", 6}, {"-------1", 6}, {"!!!!!!!1", 6}, {"!-(!-(!1))", 6}, {"((((((-1", 6}, {"1--------1", 8},
            {"1-------", 8}, {"1*", 2}, {"1**2", 2}, {"1&|2", 2}, {"2<3=1", 3},
            {"1||2", 2}, {"1<=2", 2}, {"1==2", 2}, {"d;p;y;j;o;x", 10}, {"1?2;3?4;", 8}, {"((1)", 4}, {"(1;2)", 2},
            {"\u00e9", 0}, {"1\u00ff", 1}, {"1\u0000", 1}, {"1\u00ab1", 1}, {"((((((1))))))((1", 13}, {"1,2", 1}};
        for (Object[] fault : faults) {
            faultIs((String) fault[0], (int) fault[1]);
        }
        // a law without lines that count gives 0; each door by its own names
        x = path(5);
        due(fed(x, "d<2?3;d=4?j;0?7"), 1);
        for (int[] want : new int[][] {{0, 3}, {1, 3}, {2, 0}, {3, 0}, {4, 1}}) {
            due(x.of(want[0], 3), want[1]);
        }
        x.join(4);
        due(x.of(4, 3), 2);
        fed(x, "o*5+y+p/10");
        due(x.of(1, 3), 1);
        x.old(2);
        due(x.of(1, 3), 6);
        x.mend(1, 1, 4);
        x.mend(1, 0, 30);
        due(x.of(1, 3), 12);
        x.undo();
        due(x.of(1, 3), 10);
    }

    private static void layings() {
        promise(13);
        ThreeDoors x = path(8);
        due(x.judge(0), 0);
        due(x.judge(1), 4);
        due(x.judge(128), 0);
        due(x.judge(1 | 128), -2);
        due(x.judge(1 | 16 | 128), 100 + 16 * 4 + 7);
        due(x.judge(1 | 2 | 128), 101);
        due(x.judge(255), 101);
        due(x.judge(8 | 16), 100 + 16 * 3 + 4);
        due(x.judge(2 | 32), -2);
        for (int bad : new int[] {256, -1, LEAST, GREATEST}) {
            due(x.judge(bad), -1);
        }
        x.near(5);
        due(x.judge(2 | 32), 100 + 16 + 5);
        x.mend(1, 0, 0);
        x.old(4);
        x.near(4);
        due(x.judge(2 | 32), -2);

        promise(14);
        x = path(8);
        due(x.best(0), 1 | 16);
        due(x.best(1), 1 | 16);
        due(x.best(2), 1 | 16);
        x.near(0);
        due(x.best(1), 255);
        due(x.best(0), 1 | 16);
        x.mend(0, 0, 99);
        due(x.best(2), 2 | 16);
        due(x.best(0), 1 | 16);
        x.mend(4, 0, 0);
        due(x.best(0), 1 | 32);
        x.old(1 | 16 | 64);
        due(x.best(0), 1 | 16 | 64);
        due(x.best(2), 1 | 16 | 64);
        x.near(3);
        due(x.best(0), -2);
        due(x.best(-1), -1);
        due(x.best(3), -1);
        due(x.best(GREATEST), -1);
        x = path(6);
        x.near(2);
        due(x.best(1), 1 | 4 | 16);
        x.mend(0, 0, 99);
        x.old(1);
        // an old well costs nothing, so that one more at 3 or behind is the cheapest
        due(x.best(2), 1 | 4);
        x.mend(2, 0, 11);
        due(x.best(2), 1 | 8);
        x = path(1);
        x.mend(0, 0, 0);
        due(x.best(0), -2);
        due(x.old(1), 0);
        due(x.best(0), 1);

        promise(15);
        x = path(4);
        due(x.all(0), 4);
        due(x.all(1), 0);
        due(x.all(2), 0);
        x.near(0);
        due(x.all(0), 15);
        x.mend(1, 0, 0);
        due(x.all(0), 7);
        due(x.all(2), 2);
        x.old(2);
        due(x.all(0), 8);
        due(x.all(1), 2);
        due(x.all(2), 0);
        x.near(9);
        due(x.all(0), 1);
        due(x.all(1), 2);
        due(x.all(2), 13);
        x.old(3);
        due(x.all(0), 0);
        due(x.all(1), -2);
        due(x.all(2), -2);
        due(x.all(3), -1);
        due(x.all(-1), -1);
        x = new ThreeDoors();
        for (int d = 0; d < 14; d++) {
            x.door(1, 0);
        }
        due(x.all(0), 1);
        due(x.all(1), 16383);
        due(x.best(1), 16383);
        x.near(0);
        x.old(1);
        due(x.all(0), 1);

        promise(16);
        x = path(8);
        due(x.even(), 1 | 128);
        x.near(0);
        due(x.even(), 1 | 128);
        fed(x, "1");
        due(x.even(), 1 | 8 | 64);
        x.door(1, 0);
        x.join(708);
        due(x.even(), 2 | 16 | 128);
        x.mend(4, 0, 0);
        due(x.even(), -2);
        x.old(16);
        due(x.even(), 2 | 16 | 128);

        greedyAndDry();
        growsAndBreaks();
    }

    private static void greedyAndDry() {
        promise(17);
        ThreeDoors x = path(9);
        due(x.greedy(0), 1 | 16 | 256);
        due(x.greedy(1), -2);
        x.mend(0, 0, 0);
        due(x.greedy(0), 2 | 32);
        due(x.greedy(1), 0);
        x.mend(4, 0, 0);
        x.mend(5, 0, 0);
        due(x.greedy(1), 0);
        due(x.greedy(0), 2 | 64);
        x.near(6);
        due(x.greedy(0), 2 | 128);
        x.mend(0, 0, 1);
        x.near(9);
        due(x.greedy(0), 1);
        due(x.greedy(1), 4);
        x.old(3);
        due(x.greedy(0), 3);
        due(x.greedy(1), 5);
        due(x.greedy(-1), -1);
        due(x.greedy(2), -1);
        due(x.greedy(LEAST), -1);

        promise(18);
        x = path(8);
        x.near(3);
        int told = 1 | 16;
        due(x.dry(told, 4, 0), 1 | 32);
        due(x.dry(told, 4, 1), 1);
        due(x.dry(told, 0, 0), 16 | 2);
        x.mend(1, 0, 0);
        // then 2 or 3 would be too near to 4, so that 4 goes as well
        due(x.dry(told, 0, 0), 4 | 32);
        due(x.dry(told, 0, 1), 3);
        x.mend(1, 0, 10);
        for (int[] bad : new int[][] {{told, 1, 0}, {told, 8, 0}, {told, -1, 0}, {told, 0, 2}, {told, 0, -1},
            {told | 256, 0, 0}, {-1, 0, 0}, {0, 0, 0}, {told, 32, 0}, {told, LEAST, 1}}) {
            due(x.dry(bad[0], bad[1], bad[2]), -1);
        }
        due(x.dry(1, 0, 0), -5);
        x.old(2);
        due(x.dry(told, 0, 0), -5);
        x.old(16);
        due(x.dry(told, 4, 0), 1 | 32);
        x.near(0);
        due(x.dry(told, 4, 0), 1 | 32);
        due(x.dry(told | 64, 4, 1), 0);
        due(x.dry(told | 64, 4, 0), 1 | 64);
        x = path(1);
        due(x.dry(1, 0, 0), -2);
        due(x.dry(1, 0, 1), -2);
        x = path(3);
        x.near(0);
        fed(x, "o=1?0;d=1?0;2");
        x.old(1);
        // door 0 must have its own well as long as it is an old one; dried, it may be two doors from one
        due(x.dry(3, 0, 0), 2);
        due(x.dry(3, 0, 1), 0);
        x.old(3);
        due(x.dry(3, 0, 1), 0);
        due(x.dry(3, 1, 0), -2);
    }

    private static void growsAndBreaks() {
        promise(19);
        ThreeDoors x = path(8);
        due(x.grow(), 1 | 16);
        // the first three are there first: a well among them must go on being well placed
        for (int d = 3; d < 8; d++) {
            x.mend(d, 1, 3);
        }
        due(x.grow(), 1 | 16);
        x.mend(0, 0, 0);
        due(x.grow(), 2 | 32);
        x.mend(7, 1, 9);
        due(x.grow(), 2 | 32);
        // alone at first: door 0 is 7 doors from the last one, joined by that of the last year
        x = path(3);
        x.mend(1, 1, 9);
        x.near(0);
        due(x.grow(), 1 | 4);
        x.near(2);
        due(x.grow(), 1 | 4);
        x.near(3);
        due(x.grow(), -2);
        x.near(0);
        fed(x, "j=2?0;9");
        due(x.grow(), 1 | 2 | 4);
        x.old(2);
        due(x.grow(), 1 | 2 | 4);
        fed(x, "3");
        x.mend(1, 0, 0);
        due(x.grow(), 1 | 2 | 4);
        x.old(0);
        due(x.grow(), 1 | 4);
        x.mend(0, 0, 0);
        due(x.grow(), -2);
        x = path(9);
        for (int d = 0; d < 9; d++) {
            x.mend(d, 1, d + 1);
        }
        // year by year a path grows: the least wells are in each year where the next ones fit
        due(x.grow(), 1 | 16 | 256);
        x.near(0);
        due(x.grow(), 1 | 2 | 32);
        x.door(1, 0);
        due(x.grow(), -5);

        promise(20);
        x = path(8);
        x.old(1);
        due(x.breaks(0), -2);
        due(x.breaks(1), -2);
        x.wall(607, 10);
        x.wall(7, 40);
        x.wall(4, 40);
        x.wall(5, 50);
        due(x.breaks(0), 3);
        due(x.breaks(1), 1);
        x.wall(5, 20);
        due(x.breaks(0), 4);
        x.wall(5, 20);
        due(x.breaks(0), 4);
        x.mend(5, 2, 19);
        due(x.breaks(0), 5);
        due(x.breaks(1), 1);
        // were it a join, its doors have one more of them
        fed(x, "j>2?0;d=7?0;9");
        due(x.breaks(0), -2);
        x.near(0);
        due(x.breaks(0), 1);
        due(x.breaks(1), 2);
        due(x.breaks(-1), -1);
        due(x.breaks(2), -1);
        due(x.of(0, 2), 1);
        x = path(4);
        x.wall(1, 0);
        due(x.breaks(0), 0);
        x.old(3);
        due(x.breaks(0), -2);
        x.near(1);
        due(x.breaks(1), 2);
    }

    private static void byALaying() {
        ThreeDoors x = path(8);
        x.door(5, 0);
        promise(21);
        due(x.goes(1 | 16, 2), 0);
        due(x.goes(1 | 16, 3), 4);
        due(x.goes(1 | 16, 0), 0);
        due(x.goes(1 | 16 | 256, 8), 8);
        due(x.goes(1 | 16, 8), -2);
        due(x.goes(0, 3), -2);
        due(x.goes(128, 0), 7);
        for (int[] bad : new int[][] {{512, 0}, {-1, 0}, {1, 9}, {1, -1}, {LEAST, 0}, {1, GREATEST}}) {
            due(x.goes(bad[0], bad[1]), -1);
        }

        promise(22);
        due(x.worth(1 | 16, 0), 3);
        due(x.worth(1 | 16, 4), 5);
        due(x.worth(1 | 16 | 256, 8), 1);
        due(x.worth(128, 7), 8);
        for (int[] bad : new int[][] {{1, 1}, {512, 0}, {-1, 0}, {1, 9}, {1, -1}, {1, 32}, {0, 0}}) {
            due(x.worth(bad[0], bad[1]), -1);
        }

        promise(23);
        due(x.steps(1 | 16, 0), 10);
        due(x.steps(1 | 16, 1), 99);
        due(x.steps(1 | 16 | 256, 1), 3);
        due(x.steps(0, 0), 0);
        due(x.steps(0, 1), 99);
        due(x.steps(511, 0), 0);
        due(x.steps(511, 1), 0);
        for (int[] bad : new int[][] {{512, 0}, {-1, 0}, {1, 2}, {1, -1}, {1, LEAST}}) {
            due(x.steps(bad[0], bad[1]), -1);
        }

        promise(24);
        due(x.missed(1 | 16), -5);
        due(x.missed(1 | 16 | 256), 0);
        x.near(0);
        due(x.missed(511), 511 & ~256);
        due(x.missed(1 | 2 | 32 | 256), 3);
        due(x.missed(1 | 2 | 16 | 256), 3);
        due(x.missed(1 | 4 | 16 | 64 | 256), 1 | 4 | 16 | 64);
        x.old(1);
        x.mend(4, 0, 0);
        due(x.missed(1 | 4 | 16 | 64 | 256), 1 | 4 | 16 | 64);
        due(x.missed(512), -1);
        due(x.missed(-1), -1);

        promise(25);
        x = path(5);
        x.join(4);
        x.door(1, 0);
        due(x.stood(0, 1), -11);
        bytes(x, 0, 1, 2);
        due(x.stood(0, 1 | 2), 1 << 4);
        due(x.stood(0, 1), 2 | 16);
        due(x.stood(0, 2 | 16), 1 << 2);
        due(x.stood(0, 0), 63);
        due(x.stood(0, 7), -13);
        bytes(x, 0, 99, 99, 99, 99, 99);
        due(x.stood(0, 31), 32);
        due(x.stood(0, 32), 31);
        bytes(x, 0, 257, 258);
        due(x.stood(0, 1 | 2), 1 << 4);
        for (int sort = 1; sort <= 4; sort++) {
            x.row(1, sort, 9);
            due(x.stood(1, 1), -12);
        }
        x.body(0);
        x.keep(1, 0);
        due(x.stood(1, 1), -12);
        for (int[] bad : new int[][] {{-1, 1}, {6, 1}, {0, 64}, {0, -1}, {2, 64}, {LEAST, 0}}) {
            due(x.stood(bad[0], bad[1]), -1);
        }

        promise(26);
        x = path(9);
        x.mend(0, 0, 20);
        due(x.turn(99, 1), 1 | 16 | 256);
        due(x.turn(99, 0), 3);
        due(x.turn(20, 0), 3);
        due(x.turn(19, 1), 2 | 32);
        due(x.turn(10, 0), 2);
        due(x.turn(9, 0), 0);
        due(x.turn(9, 1), 0);
        x.mend(1, 0, 0);
        due(x.turn(10, 1), 4 | 64);
        x.near(5);
        due(x.turn(10, 1), 4 | 128);
        x.old(3);
        due(x.turn(10, 1), 3 | 64);
        due(x.turn(10, 0), 1);
        due(x.turn(0, 0), 0);
        due(x.turn(0, 1), 3);
        for (int[] bad : new int[][] {{-1, 0}, {100, 0}, {1, 2}, {1, -1}, {LEAST, 0}, {GREATEST, 1}}) {
            due(x.turn(bad[0], bad[1]), -1);
        }
    }

    private static void traced(ThreeDoors x, int body, int act, int arg, int want, int... bodies) {
        due(x.act(body, act, arg), want);
        due(x.count(6), bodies.length);
        for (int i = 0; i < bodies.length; i++) {
            due(x.trace(i), bodies[i]);
        }
        due(x.trace(bodies.length), -1);
        due(x.trace(-1), -1);
        due(x.trace(GREATEST), -1);
        due(x.trace(LEAST), -1);
    }

    private static void acts() {
        promise(29);
        ThreeDoors x = new ThreeDoors();
        for (int bad : new int[] {-1, 8, LEAST, GREATEST}) {
            due(x.body(bad), -1);
        }
        for (int n = 0; n < 50; n++) {
            due(x.body(n % 8), n);
        }
        due(x.body(0), -3);
        due(x.body(8), -1);
        due(x.count(5), 50);
        due(x.act(48, 0, 1), 49);
        due(x.act(49, 0, 1), 53);

        promise(30);
        promise(31);
        traced(x, 0, 0, 5, 5, 1);
        traced(x, 8, 0, 5, 13, 1);
        traced(x, 8, 1, 5, 26, 10, 1);
        traced(x, 8, 2, 5, 13, 11);
        traced(x, 8, 3, 5, 17, 2, 10, 1, 11);
        traced(x, 1, 0, 5, 9, 20, 1);
        traced(x, 1, 1, 5, 18, 10, 20, 1);
        traced(x, 1, 2, 5, 4, 11);
        traced(x, 1, 3, 5, 18, 2, 10, 20, 1, 11);
        traced(x, 2, 0, 5, 7, 1);
        traced(x, 2, 1, 5, -14, 30, 10, 1);
        traced(x, 2, 2, 5, 7, 11);
        traced(x, 2, 3, 5, -17, 2, 30, 10, 1, 11);
        traced(x, 3, 0, 5, 8, 1);
        traced(x, 3, 1, 5, -18, 41, 30, 10, 1);
        traced(x, 3, 2, 5, 18, 40, 11);
        traced(x, 3, 3, 5, -24, 2, 41, 30, 10, 1, 40, 11);
        traced(x, 4, 0, 5, 12, 20, 1);
        traced(x, 4, 1, 5, 24, 10, 20, 1);
        traced(x, 4, 2, 5, 1, 11);
        traced(x, 4, 3, 5, 22, 50, 2, 10, 20, 1, 11);
        traced(x, 5, 0, 5, 13, 20, 1);
        traced(x, 5, 1, 5, 26, 10, 20, 1);
        traced(x, 5, 2, 5, -10, 60, 11, 20, 1);
        traced(x, 5, 3, 5, 38, 61, 50, 2, 10, 20, 1, 60, 11, 20, 1);
        traced(x, 6, 0, 5, 22, 70, 1);
        traced(x, 6, 1, 5, 44, 10, 70, 1);
        traced(x, 6, 2, 5, 3, 11);
        traced(x, 6, 3, 5, 37, 2, 10, 70, 1, 11);
        traced(x, 7, 0, 5, 23, 81, 70, 1);
        traced(x, 7, 1, 5, 51, 80, 10, 81, 70, 1, 11);
        traced(x, 7, 2, 5, 2, 11);
        traced(x, 7, 3, 5, 45, 2, 80, 10, 81, 70, 1, 11, 11);
        traced(x, 8, 0, GREATEST, LEAST + 7, 1);
        traced(x, 0, 1, LEAST, 0, 10, 1);
        for (int[] bad : new int[][] {{50, 0}, {-1, 0}, {0, 4}, {0, -1}, {LEAST, 1}, {GREATEST, 1}, {0, LEAST}}) {
            x.act(7, 3, 1);
            traced(x, bad[0], bad[1], 3, 0);
        }
    }

    private static void shelves() {
        promise(32);
        ThreeDoors x = new ThreeDoors();
        due(x.keep(0, 0), -1);
        due(x.keep(0, -1), 1);
        for (int kind = 0; kind < 8; kind++) {
            x.body(kind);
        }
        due(x.keep(5, 7), 1);
        due(x.keep(5, 8), -1);
        due(x.keep(5, -2), -1);
        due(x.keep(6, 0), -1);
        due(x.keep(-1, 0), -1);
        due(x.keep(-1, -1), -1);
        due(x.taken(5, 7), 7);
        due(x.keep(5, -1), 1);
        due(x.taken(5, 7), -11);

        promise(37);
        int[][] under = {{0}, {0, 1}, {0, 2}, {0, 2, 3}, {0, 1, 4}, {0, 1, 4, 5}, {0, 6}, {0, 6, 7}};
        for (int kind = 0; kind < 8; kind++) {
            x.keep(2, kind);
            for (int k = 0; k < 8; k++) {
                boolean is = false;
                for (int each : under[kind]) {
                    is |= each == k;
                }
                due(x.taken(2, k), is ? kind : -12);
            }
        }
        for (int[] bad : new int[][] {{6, 0}, {-1, 0}, {2, 8}, {2, -1}, {0, 8}, {LEAST, GREATEST}}) {
            due(x.taken(bad[0], bad[1]), -1);
        }
        due(x.taken(0, 0), -11);
        x.row(0, 2, 1);
        due(x.taken(0, 0), -12);

        promise(33);
        due(x.row(0, 0, 60), 1);
        due(x.element(0, 59), 0);
        due(x.element(0, 60), Long.MIN_VALUE);
        x.put(0, 59, 1);
        for (int[] bad : new int[][] {{6, 0, 1}, {-1, 0, 1}, {0, 5, 1}, {0, -1, 1}, {0, 0, 61}, {0, 0, GREATEST},
            {0, 5, -1}, {6, 0, -1}}) {
            due(x.row(bad[0], bad[1], bad[2]), -1);
        }
        due(x.row(0, 0, -1), -14);
        due(x.row(0, 4, LEAST), -14);
        due(x.element(0, 59), 1);
        due(x.row(0, 0, 60), 1);
        due(x.element(0, 59), 0);
        due(x.row(0, 3, 0), 1);
        due(x.element(0, 0), Long.MIN_VALUE);
        due(x.put(0, 0, 1), -13);

        promise(34);
        promise(35);
        long v = 0x7edcba9876543288L;
        long[] kept = {(byte) 0x88, 0x3288, 0x76543288, v, 1};
        for (int sort = 0; sort < 5; sort++) {
            x.row(1, sort, 3);
            due(x.put(1, 2, v), 1);
            due(x.element(1, 2), kept[sort]);
            due(x.element(1, 1), 0);
            due(x.put(1, 0, -1), 1);
            due(x.element(1, 0), sort == 4 ? 1 : -1);
            due(x.put(1, 0, 0x8000000000000000L), 1);
            due(x.element(1, 0), sort == 4 ? 1 : sort == 3 ? Long.MIN_VALUE : 0);
            due(x.put(1, 0, 0), 1);
            due(x.element(1, 0), 0);
            for (int i : new int[] {-1, 3, LEAST, GREATEST}) {
                due(x.put(1, i, 1), -13);
                due(x.element(1, i), Long.MIN_VALUE);
            }
        }
        x.row(1, 0, 1);
        x.put(1, 0, 200);
        due(x.element(1, 0), -56);
        x.row(1, 1, 1);
        x.put(1, 0, 40000);
        due(x.element(1, 0), -25536);
        x.row(1, 4, 1);
        x.put(1, 0, 256);
        due(x.element(1, 0), 1);
        due(x.put(6, 0, 1), -1);
        due(x.put(-1, 0, 1), -1);
        due(x.put(4, 0, 1), -11);
        due(x.put(4, -1, 1), -11);
        due(x.put(2, 0, 1), -12);
        due(x.put(2, -1, 1), -12);
        for (int shelf : new int[] {6, -1, 4, 2}) {
            due(x.element(shelf, 0), Long.MIN_VALUE);
        }

        promise(36);
        shifts(x);
    }

    private static void elementsAre(ThreeDoors x, int shelf, int... want) {
        for (int i = 0; i < want.length; i++) {
            due(x.element(shelf, i), want[i]);
        }
        due(x.put(shelf, want.length, 0), -13);
    }

    private static void shifts(ThreeDoors x) {
        bytes(x, 0, 1, 2, 3, 4, 5);
        bytes(x, 1, 6, 7, 8);
        due(x.shift(0, 1, 1, 0, 2), 2);
        elementsAre(x, 1, 2, 3, 8);
        elementsAre(x, 0, 1, 2, 3, 4, 5);
        due(x.shift(0, 0, 0, 1, 4), 4);
        elementsAre(x, 0, 1, 1, 2, 3, 4);
        due(x.shift(0, 2, 0, 0, 3), 3);
        elementsAre(x, 0, 2, 3, 4, 3, 4);
        due(x.shift(0, 5, 1, 3, 0), 0);
        due(x.shift(0, 0, 1, 0, 3), 3);
        elementsAre(x, 1, 2, 3, 4);
        int[][] gone = {{6, 0, 0}, {0, 4, 0}, {-1, 0, 1}, {0, -1, 1}, {0, 0, -1}, {0, 0, 4}, {3, 0, 3}, {0, 1, 3},
            {GREATEST, 0, 1}, {0, GREATEST, 1}, {1, 1, GREATEST}, {LEAST, LEAST, LEAST}, {1, 1, LEAST}};
        for (int[] at : gone) {
            due(x.shift(0, at[0], 1, at[1], at[2]), -13);
        }
        elementsAre(x, 1, 2, 3, 4);
        due(x.shift(6, 0, 0, 0, 1), -1);
        due(x.shift(0, 0, 6, 0, 1), -1);
        due(x.shift(-1, 0, 4, 0, 1), -1);
        due(x.shift(4, 0, 0, 0, 1), -11);
        due(x.shift(0, 0, 4, 0, 1), -11);
        due(x.shift(2, 0, 4, 0, 1), -11);
        due(x.shift(4, 0, 2, 0, -1), -11);
        due(x.shift(2, 0, 0, 0, 1), -12);
        due(x.shift(0, 0, 2, 0, 1), -12);
        due(x.shift(2, 0, 2, 0, 1), -12);
        x.row(3, 4, 5);
        due(x.shift(0, 0, 3, 0, 1), -12);
        due(x.shift(3, 0, 0, 0, -1), -12);

        promise(38);
        x = path(3);
        x.wall(2, 1);
        x.feed('1');
        x.mend(0, 0, 1);
        x.mend(0, 0, 2);
        x.undo();
        for (int k = 0; k < 6; k++) {
            x.body(5);
        }
        x.act(0, 3, 1);
        int[] want = {3, 2, 1, 1, 1, 6, 10};
        for (int what = 0; what <= 6; what++) {
            due(x.count(what), want[what]);
        }
        for (int bad : new int[] {-1, 7, LEAST, GREATEST}) {
            due(x.count(bad), -1);
        }
    }
}
