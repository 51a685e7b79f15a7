import java.util.Arrays;
import java.util.function.IntFunction;
import java.util.function.IntToLongFunction;

/**
 * Each sentence of DOC.md that names a boundary case, by itself and in the document's order: the last value that is
 * taken and the first that is refused on either side, the empty and the full case, the int that wraps. What refused
 * calls change (nothing), and which of several refusals is answered, is held by RefusalTest.
 */
public final class BoundaryTest {
    private static final int LEAST = Integer.MIN_VALUE, GREATEST = Integer.MAX_VALUE;
    private static final int BAD = -1, NOT = -2, FULL = -3, STATE = -5;
    private static final String LEAST_INT = "2048*2048*512";
    private static int wrong = 0;
    private static int sentences = 0;
    private static int row = 0;
    private static String sentence = "";

    public static void main(String[] args) {
        doorsAndJoins();
        wallsAndWells();
        farAndNear();
        tape();
        textsAndFaults();
        values();
        reaches();
        judgedLayings();
        bestLayings();
        greedyAndDry();
        growing();
        breaking();
        byALaying();
        turns();
        askedFirstOrLater();
        changes();
        bodiesAndActs();
        shelves();
        joinsFromRows();
        shifts();
        numbersThatCallsTake();
        System.out.println(wrong == 0 ? "boundaries: " + sentences + " sentences hold"
            : "boundaries: " + wrong + " rows are not as due");
        if (wrong != 0) {
            System.exit(1);
        }
    }

    // ---- how it is told

    private static void sentence(String words) {
        sentence = words;
        sentences++;
        row = 0;
    }

    private static void due(long got, long want) {
        row++;
        if (got != want) {
            wrong++;
            System.out.println("\"" + sentence + "\", row " + row + ": answered " + got + ", due is " + want);
        }
    }

    private static void must(boolean holds, String what) {
        row++;
        if (!holds) {
            wrong++;
            System.out.println("\"" + sentence + "\", row " + row + ": " + what);
        }
    }

    /** Each number from..to is taken, and none beside them: not the next ones, not one that is like them in its lowest bits. */
    private static void takes(String what, int from, int to, IntToLongFunction call) {
        sentence(what + ": " + from + " .. " + to);
        for (int v = from; v <= to; v++) {
            must(call.applyAsLong(v) != BAD, v + " is refused");
        }
        for (int v : new int[] {from - 1, from - 2, to + 1, to + 2, from + 32, to + 32, to + 256, from - 256, from + 65536,
            1 << 30, LEAST, LEAST + from, LEAST + to, GREATEST, GREATEST - 1}) {
            if (v < from || v > to) {
                due(call.applyAsLong(v), BAD);
            }
        }
    }

    /** All bits of the doors are taken, none beyond them and no number below 0. */
    private static void takesBits(String what, IntFunction<ThreeDoors> town, BitsCall call) {
        sentence(what + ": bits of DOORS that there are");
        for (int doors : new int[] {0, 1, 2, 9, 13, 14}) {
            int all = (1 << doors) - 1;
            must(call.of(town.apply(doors), all) != BAD, "all doors of " + doors + " are refused");
            for (int bad : new int[] {all + 1, all + 1 | all, 1 << 20, -1, -1 << doors, 1 << 30, LEAST, LEAST | all, GREATEST}) {
                due(call.of(town.apply(doors), bad), BAD);
            }
        }
    }

    private interface BitsCall {
        long of(ThreeDoors x, int bits);
    }

    // ---- towns

    /** Doors of price 10 and year 0 that nothing joins. */
    private static ThreeDoors lone(int doors) {
        ThreeDoors x = new ThreeDoors();
        for (int d = 0; d < doors; d++) {
            x.door(10, 0);
        }
        return x;
    }

    /** The same, each joined with the next. */
    private static ThreeDoors path(int doors) {
        ThreeDoors x = lone(doors);
        for (int d = 0; d + 1 < doors; d++) {
            x.join(100 * d + d + 1);
        }
        return x;
    }

    /** The same, with a law and with how many doors wells must be from one another. */
    private static ThreeDoors path(int doors, String law, int near) {
        ThreeDoors x = path(doors);
        fed(x, law);
        x.near(near);
        return x;
    }

    private static int fed(ThreeDoors x, String text) {
        for (int k = 0; k < text.length(); k++) {
            x.feed(text.charAt(k));
        }
        return x.law();
    }

    private static int read(String text) {
        return fed(lone(1), text);
    }

    private static int reach(String text) {
        ThreeDoors x = lone(1);
        due(fed(x, text), 1);
        return x.of(0, 3);
    }

    /** Whether something told of ints is so: no comparison is in it but its last, so that it gives 1 or 0. */
    private static void so(String told) {
        due(reach(told), 1);
    }

    private static String times(String text, int many) {
        StringBuilder all = new StringBuilder();
        for (int k = 0; k < many; k++) {
            all.append(text);
        }
        return all.toString();
    }

    private static void bytes(ThreeDoors x, int shelf, int... values) {
        x.row(shelf, 0, values.length);
        for (int k = 0; k < values.length; k++) {
            x.put(shelf, k, values[k]);
        }
    }

    // ---- terms 1

    private static void doorsAndJoins() {
        sentence("No doors.");
        ThreeDoors x = new ThreeDoors();
        for (int what = 0; what <= 6; what++) {
            due(x.count(what), 0);
        }
        for (int what : new int[] {0, 1, 2, 3, 10, 20, 21}) {
            due(x.of(0, what), BAD);
        }
        due(x.trace(0), BAD);
        due(x.undo(), STATE);
        due(x.redo(), STATE);
        due(x.law(), -100);
        for (int shelf = 0; shelf < 6; shelf++) {
            due(x.taken(shelf, 0), -11);
        }
        due(x.old(0), 0);
        due(x.judge(0), NOT);
        due(x.all(0), 1);

        sentence("DOORS 0 .. 13, as they come. FULL: 14.");
        x = new ThreeDoors();
        for (int d = 0; d < 14; d++) {
            due(x.of(d, 0), BAD);
            due(x.door(d + 1, d % 10), d);
            due(x.count(0), d + 1);
        }
        due(x.door(50, 5), FULL);
        due(x.count(0), 14);
        for (int d = 0; d < 14; d++) {
            due(x.of(d, 0), d + 1);
            due(x.of(d, 1), d % 10);
        }
        due(x.of(14, 0), BAD);

        takes("a PRICE of digging", 0, 99, v -> path(2).door(v, 0));
        takes("a YEAR in which it is built", 0, 9, v -> path(2).door(1, v));

        sentence("JOINS 0 .. 39, as they come. FULL: 40.");
        x = lone(14);
        for (int k = 0; k < 40; k++) {
            due(x.of(k, 10), BAD);
            due(x.join(100 * (k % 13) + 13), k);
            due(x.count(1), k + 1);
        }
        due(x.join(1), FULL);
        due(x.count(1), 40);
        due(x.far(1), 2);
        for (int k = 0; k < 40; k++) {
            due(x.of(k, 10), 100 * (k % 13) + 13);
        }
        due(x.of(40, 10), BAD);
        due(x.of(13, 2), 40);

        pairs("JOINS: of two DOORS (unlike)", false, (town, ab) -> town.join(ab));
        pairs("WALLS: between two DOORS (unlike)", false, (town, ab) -> town.wall(ab, 1));
        pairs("FAR of two DOORS (ab; alike: 0)", true, (town, ab) -> town.far(ab));

        sentence("the same two may be joined again");
        x = lone(2);
        due(x.join(1), 0);
        due(x.join(1), 1);
        due(x.join(100), 2);
        due(x.of(0, 2), 3);
        due(x.of(1, 2), 3);
        due(x.far(1), 1);
        due(x.of(0, 10), 1);
        due(x.of(2, 10), 100);

        sentence("one step, both ways");
        x = lone(3);
        x.join(2);
        due(x.far(2), 1);
        due(x.far(200), 1);
        due(x.of(1, 2), 0);
        due(x.goes(1, 2), 0);
        due(x.goes(4, 0), 2);
    }

    private interface PairCall {
        long of(ThreeDoors x, int ab);
    }

    /** Every ab near the bounds, in towns of no, one, two and of all doors. */
    private static void pairs(String words, boolean alikeToo, PairCall call) {
        sentence(words);
        for (int doors : new int[] {0, 1, 2, 13, 14}) {
            for (int ab = -1500; ab <= 1500; ab++) {
                boolean is = ab >= 0 && ab / 100 < doors && ab % 100 < doors && (alikeToo || ab / 100 != ab % 100);
                must(call.of(lone(doors), ab) != BAD == is, "of " + doors + " doors: " + ab);
            }
            for (int ab : new int[] {LEAST, GREATEST, GREATEST - 46, 1 << 30, 65536, 65537, -100 * 65536 + 1}) {
                due(call.of(lone(doors), ab), BAD);
            }
        }
    }

    private static void wallsAndWells() {
        sentence("WALLS 0 .. 9, as they come. FULL: 10.");
        ThreeDoors x = lone(14);
        for (int k = 0; k < 10; k++) {
            due(x.of(k, 20), BAD);
            due(x.of(k, 21), BAD);
            due(x.mend(k, 2, 1), BAD);
            due(x.wall(100 * (k % 3) + 13, 9 * k), k);
            due(x.count(2), k + 1);
        }
        due(x.wall(1, 1), FULL);
        due(x.count(2), 10);
        for (int k = 0; k < 10; k++) {
            due(x.of(k, 20), 100 * (k % 3) + 13);
            due(x.of(k, 21), 9 * k);
        }
        due(x.of(10, 20), BAD);
        due(x.of(10, 21), BAD);

        takes("a COST", 0, 99, v -> path(2).wall(1, v));

        sentence("WALLS: no way");
        due(x.far(13), 99);
        due(x.of(0, 2), 0);
        due(x.of(13, 2), 0);
        due(x.count(1), 0);
        due(x.goes(1, 13), NOT);

        takesBits("OLD wells become bits", BoundaryTest::lone, ThreeDoors::old);
        sentence("OLD wells become bits: which they were");
        x = lone(14);
        due(x.old(16383), 0);
        due(x.old(8192), 16383);
        due(x.old(1), 8192);
        due(x.old(1), 1);
        due(x.old(0), 1);
        due(x.old(0), 0);

        sentence("OLD wells: they stay");
        x = path(4);
        x.old(8);
        due(x.best(0), 8);
        due(x.all(0), 1);
        due(x.all(1), 8);
        due(x.greedy(0), 8);
        due(x.turn(99, 1), 8);
        due(x.grow(), 8);
        due(x.even(), 8);
    }

    private static void farAndNear() {
        sentence("FAR of two DOORS: the fewest steps; none: 99");
        ThreeDoors x = path(14);
        due(x.far(13), 13);
        due(x.far(1300), 13);
        x.join(1);
        due(x.far(13), 13);
        x.join(13);
        due(x.far(13), 1);
        due(x.far(7), 7);
        due(x.far(8), 6);
        x = path(13);
        x.door(1, 0);
        due(x.far(13), 99);
        due(x.far(1300), 99);
        due(x.far(1312), 99);
        due(x.far(12), 12);
        for (int d = 0; d < 14; d++) {
            due(x.far(101 * d), 0);
        }

        takes("NEAR", 0, 9, v -> path(2).near(v));
        sentence("NEAR (4 at first); becomes v: what it was");
        x = new ThreeDoors();
        due(x.near(9), 4);
        due(x.near(0), 9);
        due(x.near(0), 0);
        due(x.near(4), 0);
        sentence("4 at first: wells 4 doors apart are not too near, wells 3 apart are");
        due(path(5).judge(1 | 16), NOT);
        due(path(4).judge(1 | 8), 103);
    }

    private static void tape() {
        takes("A byte comes to THE TAPE", 0, 255, v -> path(2).feed(v));

        sentence("THE TAPE (at most 120 bytes): how many it has. FULL (120)");
        ThreeDoors x = lone(1);
        for (int k = 1; k <= 120; k++) {
            due(x.count(3), k - 1);
            due(x.feed(k % 2 == 0 ? '+' : '1'), k);
        }
        due(x.feed('1'), FULL);
        due(x.count(3), 120);

        sentence("THE TAPE is empty then");
        due(x.law(), -220);
        due(x.count(3), 0);
        due(x.law(), -100);
        due(x.feed('7'), 1);
        due(x.law(), 1);
        due(x.count(3), 0);
        due(x.law(), -100);
        due(x.of(0, 3), 7);

        sentence("a TEXT of all 120 bytes: its last one counts, and its last LINE");
        due(reach(times("0+", 59) + "19"), 19);
        due(reach(times("0?1;", 29) + "0?18"), 0);
        due(reach(times("0?1;", 29) + "0+17"), 17);
        due(read(times("0?1;", 29) + "1-1;"), -220);
        due(read(times("1-", 60)), -220);
        due(read(times("1-", 59) + "1)"), -219);
        due(read(")" + times("1", 119)), -100);
    }

    private static void textsAndFaults() {
        sentence("LINES, one or more, parted by ;");
        texts(new String[] {"1", "1;1", "1;1;1", "0?1;0?1;1"});
        faults(new Object[][] {{"", 0}, {";", 0}, {"1;", 2}, {";1", 0}, {"1;;1", 2}, {"1;1;", 4}, {"1?1;", 4}});

        sentence("LINE: E, or E ? E");
        texts(new String[] {"1?1", "1?1;1?1", "(1)?(1)"});
        faults(new Object[][] {{"?", 0}, {"?1", 0}, {"1?", 2}, {"1??1", 2}, {"1?1?1", 3}, {"1?;1", 2}, {"(1?1)", 2},
            {"1;1?1?1", 5}, {"(1;1)", 2}});

        sentence("E = A { | A }. A = B { & B }");
        texts(new String[] {"1|1|1|1", "1&1&1&1", "1|1&1|1", "1&1|1&1"});
        faults(new Object[][] {{"|1", 0}, {"1|", 2}, {"1||1", 2}, {"&1", 0}, {"1&", 2}, {"1&&1", 2}, {"1|&1", 2}});

        sentence("B = S, or S < S, S = S, S > S");
        texts(new String[] {"1<1", "1=1", "1>1", "1<1&1=1", "1<1|1>1", "(1<1)<1", "1=(1=1)", "1<1?1<1", "1<1;1<1"});
        faults(new Object[][] {{"1<1<1", 3}, {"1=1=1", 3}, {"1>1>1", 3}, {"1<1>1", 3}, {"1=1<1", 3}, {"(1<1<1)", 4},
            {"1<=1", 2}, {"1>=1", 2}, {"1==1", 2}, {"1!=1", 1}, {"<1", 0}, {"1<", 2}, {"1+1<1+1<1", 7}, {"1&1<1<1", 5}});

        sentence("S = P { + P, - P }. P = O { * O, / O, % O }");
        texts(new String[] {"1+1-1+1", "1*1/1%1", "1*1+1/1-1%1", "1--1", "1*-1", "1+!1"});
        faults(new Object[][] {{"+1", 0}, {"1+", 2}, {"1-", 2}, {"1+*1", 2}, {"*1", 0}, {"/1", 0}, {"%1", 0}, {"1*", 2},
            {"1/", 2}, {"1%", 2}, {"1//1", 2}, {"1*/1", 2}, {"1++1", 2}});

        sentence("a number (1 to 4 digits)");
        texts(new String[] {"0", "9", "00", "99", "000", "999", "0000", "9999", "1234+5678", "0001;0002?0003"});
        faults(new Object[][] {{"00000", 4}, {"12345", 4}, {"99999", 4}, {"1+12345", 6}, {"(12345)", 5}, {"1;00001", 6}});

        sentence("No blanks.");
        faults(new Object[][] {{" ", 0}, {" 1", 0}, {"1 ", 1}, {"1 +1", 1}, {"1+ 1", 2}, {"( 1)", 1}, {"1\n", 1}, {"1\t", 1},
            {"! 1", 1}, {"1; 1", 2}});

        open();
        everyByte();
    }

    private static void open() {
        sentence("At most 6 of ( ! - ahead of an O are open at once.");
        for (String sign : new String[] {"(", "!", "-"}) {
            String close = sign.equals("(") ? ")" : "";
            for (int many = 0; many <= 6; many++) {
                due(read(times(sign, many) + "1" + times(close, many)), 1);
                due(read("1-" + times(sign, many) + "1" + times(close, many)), 1);
            }
            due(read(times(sign, 7) + "1" + times(close, 7)), -106);
            due(read(times(sign, 8) + "1" + times(close, 8)), -106);
            due(read("1-" + times(sign, 7) + "1" + times(close, 7)), -108);
            for (String other : new String[] {"(", "!", "-"}) {
                due(read("(((" + times(sign, 2) + other + "1"), -107);
                due(read("(((" + times(sign, 3) + other + "1"), -106);
            }
        }
        texts(new String[] {"!-!-!-1", "(!(-(!1)))", "!(-(!(1)))", "-(((((1)))))", "(((((-1)))))", "(((((1)+(1)))))"});
        faults(new Object[][] {{"!-!-!-!1", 6}, {"(((((--1", 6}, {"!!!!!!(1", 6}, {"(((((1)+(((1", 10}});

        sentence("open: with its O a ! or - is open no more, nor is a ( behind its )");
        texts(new String[] {times("(", 6) + "1" + times(")", 6) + "+" + times("(", 6) + "1" + times(")", 6),
            "!!!!!!1+!!!!!!1", "------1-------1", "(((((!1+!1)))))", "(((((-1*-1)))))", "(((((1)))))*(((((1)))))",
            "((((((1)))))+1)", "((((((1)+1)+1)+1)+1)+1)", "!1+!1+!1+!1+!1+!1+!1+!1", "-1;-1;-1;-1;-1;-1;-1;-1",
            "(1)+(1)+(1)+(1)+(1)+(1)+(1)+(1)", "!!!1?---1;!!!1", "((((((1))))))?((((((1))))))"});
        faults(new Object[][] {{"((((((1)+((1", 10}, {"!!!!!!1+!!!!!!!1", 14}, {"(((((!1+!!1", 9}, {"((((((1))))))?(((((((1", 20},
            {"-1;-------1", 9}});
    }

    private static void texts(String[] texts) {
        for (String text : texts) {
            due(read(text), 1);
        }
    }

    private static void faults(Object[][] faults) {
        for (Object[] fault : faults) {
            due(read((String) fault[0]), -100 - (int) fault[1]);
        }
    }

    /** Each of all 256 bytes behind a beginning: it is the fault, or ends a text, or the text ends too early. */
    private static void everyByte() {
        sentence("FAULT: the place (from 0) of the first byte with which no TEXT goes on; the length, if it ends too early");
        behind("", "0123456789dpyjo", "(!-");
        behind("!", "0123456789dpyjo", "(!-");
        behind("(((((", "", "0123456789dpyjo(!-");
        behind("((((((", "", "0123456789dpyjo");
        behind("------", "0123456789dpyjo", "");
        behind("1", "0123456789", "|&<=>+-*/%?;");
        behind("123", "0123456789", "|&<=>+-*/%?;");
        behind("1234", "", "|&<=>+-*/%?;");
        behind("d", "", "|&<=>+-*/%?;");
        behind("(1)", "", "|&<=>+-*/%?;");
        behind("1<1", "0123456789", "|&+-*/%?;");
        behind("1=d", "", "|&+-*/%?;");
        behind("1>1&1", "0123456789", "|&<=>+-*/%?;");
        behind("1>1|o", "", "|&<=>+-*/%?;");
        behind("1?1", "0123456789", "|&<=>+-*/%;");
        behind("1?1;1", "0123456789", "|&<=>+-*/%?;");
        behind("1?", "0123456789dpyjo", "(!-");
        behind("1;", "0123456789dpyjo", "(!-");
        behind("1+", "0123456789dpyjo", "(!-");
        behind("1<", "0123456789dpyjo", "(!-");
        behind("(1", ")", "0123456789|&<=>+-*/%");
        behind("(1<1", ")", "0123456789|&+-*/%");
        behind("(d", ")", "|&<=>+-*/%");
    }

    private static void behind(String beginning, String ends, String goOn) {
        for (int letter = 0; letter < 256; letter++) {
            int place = beginning.length();
            int want = ends.indexOf(letter) >= 0 ? 1 : goOn.indexOf(letter) >= 0 ? -101 - place : -100 - place;
            int got = read(beginning + (char) letter);
            must(got == want, "byte " + letter + " behind " + beginning + ": " + got + ", not " + want);
        }
    }

    private static void values() {
        sentence("Ints that wrap");
        so(LEAST_INT + "<0");
        so(LEAST_INT + "-1>0");
        so(LEAST_INT + "-1+1<0");
        so("2048*2048*1024=0");
        so("2048*2048*511+2048*2047+2047+2048*2048*0>0");
        so("9999*9999*21>0");
        so("9999*9999*22<0");
        so("9999*9999*60>0");
        so("9999*9999*22=0-2048*2048*499-1024*2392-170");
        so("-(" + LEAST_INT + ")<0");
        so("0-" + LEAST_INT + "<0");
        so("-(" + LEAST_INT + "-1)<0");
        so("-(" + LEAST_INT + "-1)-1=" + LEAST_INT);
        so(LEAST_INT + "*2=0");
        so(LEAST_INT + "*3=" + LEAST_INT);
        so(LEAST_INT + "+" + LEAST_INT + "=0");
        so(LEAST_INT + "/-1=" + LEAST_INT);
        so(LEAST_INT + "%-1=0");
        so("(" + LEAST_INT + "-1)*(" + LEAST_INT + "-1)=1");

        sentence("/ and % toward 0");
        for (String told : new String[] {"7/2=3", "-7/2=-3", "7/-2=-3", "-7/-2=3", "1/2=0", "-1/2=0", "7%2=1", "-7%2=-1",
            "7%-2=1", "-7%-2=-1", "6%2=0", "-6%2=0", "9999/9999=1", "9998/9999=0", "9998%9999=9998", "7/1=7", "7%1=0"}) {
            so(told);
        }

        sentence("/ and % by 0 they give 0");
        for (String told : new String[] {"1/0=0", "0/0=0", "-5/0=0", "9999/0=0", "5%0=0", "0%0=0", "-5%0=0", "7/(1-1)=0",
            "7%(1-1)=0", "7+5/0=7", "7+5%0=7", "5/0/0=0", "5/0%0=0", "7/o=0", LEAST_INT + "/0=0", LEAST_INT + "%0=0"}) {
            so(told);
        }

        sentence("| & < = > ! give 1, 0");
        String[] one = {"1|0", "0|1", "2|4", "-1|0", "0|-1", "1&1", "1&2", "-1&-2", "4&3", "0<1", "-1<0", "0=0", "-1=0-1",
            "9999=9999", "1>0", "0>-1", "!0", "!!5", "!!-1", "!(1-1)"};
        String[] none = {"0|0", "0&0", "1&0", "0&1", "2&0", "1<1", "1<0", "0<-1", "1=0", "1=-1", "1>1", "0>1", "-1>0", "!1",
            "!2", "!-1", "!9999", "!!0"};
        for (String told : one) {
            due(reach(told), 1);
            due(reach("(" + told + ")*7"), 7);
        }
        for (String told : none) {
            due(reach(told), 0);
            due(reach("(" + told + ")+7"), 7);
        }

        names();
        lines();
    }

    private static void names() {
        sentence("NAMES: d the DOOR, p PRICE, y YEAR, j how many JOINS it has, o 1, if an OLD well is there");
        ThreeDoors x = new ThreeDoors();
        for (int d = 0; d < 14; d++) {
            x.door(d == 13 ? 99 : d == 12 ? 20 : 0, d == 13 ? 9 : 0);
        }
        for (int k = 0; k < 20; k++) {
            x.join(k % 2 == 0 ? 13 : 1300);
        }
        x.old(1 << 13 | 1 << 5);
        String[] laws = {"d", "p", "y", "j", "o", "p-80", "j+d", "o*9+d"};
        int[] first = {0, 0, 0, 20, 0, 0, 20, 0};
        int[] last = {13, 20, 9, 20, 1, 19, 20, 20};
        for (int k = 0; k < laws.length; k++) {
            due(fed(x, laws[k]), 1);
            due(x.of(0, 3), first[k]);
            due(x.of(13, 3), last[k]);
        }
        due(x.of(12, 3), 12);
        due(x.of(5, 3), 14);
        fed(x, "p");
        due(x.of(12, 3), 20);
        fed(x, "j");
        due(x.of(1, 3), 0);
        fed(x, "o+1");
        due(x.of(5, 3), 2);
        due(x.of(4, 3), 1);
        x.old(0);
        due(x.of(5, 3), 1);
    }

    private static void lines() {
        sentence("The first LINE without a first E, or whose first E is not 0, counts; none: 0.");
        due(reach("5"), 5);
        due(reach("5;6"), 5);
        due(reach("0;6"), 0);
        due(reach("1?5;6"), 5);
        due(reach("-1?5;6"), 5);
        due(reach(LEAST_INT + "?5;6"), 5);
        due(reach("2?5;6"), 5);
        due(reach("0?5;6"), 6);
        due(reach("0?5;1?6;7"), 6);
        due(reach("0?5;0?6;7"), 7);
        due(reach("0?5;6;1?7"), 6);
        due(reach("1?0;6"), 0);
        due(reach("1?0-1;6"), 0);
        due(reach("0?5"), 0);
        due(reach("0?5;0?6"), 0);
        due(reach("1-1?5;0?6;0?7"), 0);
    }

    private static void reaches() {
        sentence("REACH (held within 0 .. 20)");
        String[] laws = {"0-9999", "0-1", "-1", "0", "1", "19", "20", "21", "9999", LEAST_INT, LEAST_INT + "-1", "0-20"};
        int[] wants = {0, 0, 0, 0, 1, 19, 20, 20, 20, 0, 20, 0};
        for (int k = 0; k < laws.length; k++) {
            due(reach(laws[k]), wants[k]);
        }

        sentence("Without a text 3.");
        ThreeDoors x = lone(14);
        due(x.of(0, 3), 3);
        due(x.of(13, 3), 3);
        x.feed('7');
        due(x.of(0, 3), 3);
        due(path(4).judge(1), NOT);
        due(path(5).judge(1), 4);

        sentence("what is no TEXT does not become THE LAW");
        x = lone(1);
        due(fed(x, "7+"), -102);
        due(x.of(0, 3), 3);
        due(fed(x, "7"), 1);
        due(fed(x, ""), -100);
        due(x.of(0, 3), 7);
        due(fed(x, "8;"), -102);
        due(x.of(0, 3), 7);

        sentence("how FAR a well may be from that DOOR at most");
        for (int most = 0; most <= 13; most++) {
            due(path(14, String.valueOf(most), 0).judge(1), most == 13 ? NOT : most + 1);
        }
        due(path(3, "0", 0).judge(7), NOT);
        due(path(3, "0", 0).judge(3), 2);
        x = lone(2);
        fed(x, "9999");
        due(x.judge(1), 1);
        due(x.judge(2), 0);
        x = path(3, "d=0?2;d=1?0;9", 0);
        due(x.judge(4), 1);
        due(x.judge(2), NOT);
    }

    // ---- terms 2

    private static void judgedLayings() {
        takesBits("JUDGED (any told bits)", BoundaryTest::lone, (x, bits) -> x.judge(bits));

        sentence("no two wells are less than NEAR apart");
        for (int near = 0; near <= 9; near++) {
            for (int apart = 1; apart <= 10; apart++) {
                int want = apart < near ? 100 + apart : NOT;
                due(path(11, "20", near).judge(1 | 1 << apart), want);
            }
        }
        ThreeDoors x = lone(2);
        x.near(9);
        due(x.judge(3), NOT);

        sentence("JUDGED: the first DOOR that has none within REACH: its number");
        due(path(8).judge(0), 0);
        due(path(8).judge(128), 0);
        due(path(8).judge(64), 0);
        due(path(8).judge(1), 4);
        due(path(8).judge(2), 5);
        due(path(14).judge(1 | 16 | 256), 12);
        due(path(13).judge(1 | 16 | 256), 12);
        due(path(12).judge(1 | 16 | 256), NOT);

        sentence("else the first two wells (the lesser, then the other) that are too near");
        due(path(8).judge(3), 5);
        due(path(8).judge(3 | 128), 101);
        x = lone(6);
        x.join(5);
        x.join(102);
        x.near(2);
        due(x.judge(63), 105);
        x.join(3);
        due(x.judge(63), 103);
        due(x.judge(63 & ~8), 105);
        due(x.judge(63 & ~1), 118);
        x = path(14, "20", 2);
        due(x.judge(1 << 12 | 1 << 13), 305);
        due(x.judge(1 << 11 | 1 << 13), NOT);
        due(x.judge(1 << 3 | 1 << 4 | 1 << 5 | 1 << 12), 100 + 16 * 3 + 4);
        due(x.judge(1 << 13), NOT);

        sentence("MAY BE: LAWFUL, all OLD wells in it, no other one in rock");
        x = path(2, "3", 0);
        x.mend(0, 0, 0);
        due(x.all(0), 1);
        due(x.all(1), 2);
        due(x.all(2), 1);
        x.old(1);
        due(x.all(0), 2);
        due(x.all(1), 1);
        due(x.all(2), 0);
        x.old(2);
        due(x.all(0), 1);
        x.old(3);
        due(x.all(0), 1);
        due(x.all(1), 3);
        x.mend(0, 0, 1);
        x.old(0);
        due(x.all(0), 3);
        x.mend(0, 0, 0);
        due(x.judge(1), NOT);
        due(x.dry(1, 0, 0), STATE);
        due(x.dry(2, 1, 0), NOT);
    }

    /** Three doors about a fourth one, with a well next door at most, and no two next to one another. */
    private static ThreeDoors star() {
        ThreeDoors x = lone(4);
        x.join(3);
        x.join(103);
        x.join(203);
        x.near(2);
        fed(x, "1");
        return x;
    }

    private static void bestLayings() {
        sentence("FEWEST, MOST wells, CHEAPEST: of all that MAY BE; of like ones the least bits");
        ThreeDoors x = path(4, "3", 2);
        due(x.best(0), 1);
        due(x.best(1), 1 | 4);
        due(x.best(2), 1);
        x.mend(0, 0, 11);
        due(x.best(0), 1);
        due(x.best(2), 2);
        x.mend(1, 0, 0);
        due(x.best(2), 4);
        due(x.best(1), 1 | 4);
        x.mend(0, 0, 0);
        due(x.best(1), 4);
        due(x.best(0), 4);

        sentence("the fewest, the most, the cheapest, though others have less or more bits");
        x = star();
        due(x.best(0), 8);
        due(x.best(1), 7);
        due(x.best(2), 8);
        due(x.all(0), 2);
        x.mend(3, 0, 30);
        due(x.best(2), 7);
        x.mend(3, 0, 29);
        due(x.best(2), 8);
        due(x.grow(), 8);
        x.wall(1, 1);
        due(x.breaks(1), 1);

        sentence("CHEAPEST (the sum of PRICES of wells that are not OLD)");
        x = path(3, "1", 0);
        x.mend(1, 0, 20);
        due(x.best(2), 2);
        x.mend(1, 0, 21);
        due(x.best(2), 1 | 4);
        x.old(2);
        due(x.best(2), 2);
        x.mend(1, 0, 19);
        x.old(4);
        due(x.best(2), 1 | 4);
        x.mend(0, 0, 20);
        due(x.best(2), 2 | 4);
        x.mend(0, 0, 19);
        due(x.best(2), 1 | 4);
        x = path(14, "0", 0);
        due(x.best(2), 16383);

        sentence("the one of no DOORS");
        x = new ThreeDoors();
        for (int what = 0; what <= 2; what++) {
            due(x.best(what), 0);
        }
        due(x.all(0), 1);
        due(x.all(1), 0);
        due(x.all(2), 0);
        due(x.even(), 0);
        due(x.greedy(0), 0);
        due(x.greedy(1), NOT);
        due(x.grow(), 0);
        due(x.breaks(0), NOT);
        due(x.breaks(1), NOT);

        sentence("NOT: none MAY BE");
        x = path(2, "3", 0);
        x.mend(0, 0, 0);
        x.mend(1, 0, 0);
        for (int what = 0; what <= 2; what++) {
            due(x.best(what), NOT);
        }
        due(x.all(0), 0);
        due(x.all(1), NOT);
        due(x.all(2), NOT);
        due(x.even(), NOT);
        due(x.grow(), NOT);
        x.mend(1, 0, 1);
        for (int what = 0; what <= 2; what++) {
            due(x.best(what), 2);
        }
        due(x.even(), 2);
        due(x.grow(), 2);

        sentence("HOW MANY MAY BE; DOORS with a well in all of them; in none");
        x = path(14, "13", 0);
        due(x.all(0), 16383);
        due(x.all(1), 0);
        due(x.all(2), 0);
        due(x.best(0), 1);
        due(x.best(1), 16383);
        x.old(1);
        due(x.all(0), 8192);
        due(x.all(1), 1);
        x.old(1 << 13);
        due(x.all(0), 8192);
        due(x.all(1), 1 << 13);
        x.near(9);
        due(x.all(0), 6);
        due(x.all(2), 0x1fe0);
        x.old(16383);
        x.near(0);
        due(x.all(0), 1);
        due(x.all(1), 16383);
        due(x.all(2), 0);
        x = lone(14);
        due(x.all(0), 1);
        due(x.all(1), 16383);
        due(x.all(2), 0);

        sentence("EVEN: the one with the least bits in which each DOOR has just one well within its REACH");
        due(path(1).even(), 1);
        due(path(4, "3", 0).even(), 1);
        due(path(5, "3", 0).even(), 2);
        due(path(3, "1", 0).even(), 2);
        due(path(4, "1", 0).even(), 1 | 8);
        x = path(3, "1", 0);
        x.old(1 | 4);
        due(x.even(), NOT);
        due(x.best(0), 1 | 4);
        x = path(14, "0", 0);
        due(x.even(), 16383);
        x.mend(13, 0, 0);
        due(x.even(), NOT);
    }

    private static void greedyAndDry() {
        sentence("GREEDY: one that has none within REACH digs at its own, if that is no rock and no well would be too near");
        ThreeDoors x = path(5);
        due(x.greedy(0), 1 | 16);
        due(x.greedy(1), NOT);
        x.near(5);
        due(x.greedy(0), 1);
        due(x.greedy(1), 4);
        x.near(4);
        x.mend(4, 0, 0);
        due(x.greedy(0), 1);
        due(x.greedy(1), 4);
        x.mend(4, 0, 1);
        due(x.greedy(0), 1 | 16);
        due(path(4).greedy(0), 1);
        x.mend(0, 0, 0);
        due(x.greedy(0), 2);
        due(x.greedy(1), 0);

        sentence("else it is STUCK, and it goes on: the first that was STUCK");
        x = lone(14);
        x.mend(3, 0, 0);
        x.mend(13, 0, 0);
        due(x.greedy(0), 16383 & ~8 & ~8192);
        due(x.greedy(1), 3);
        x.mend(3, 0, 1);
        due(x.greedy(1), 13);
        x.old(8192);
        due(x.greedy(0), 16383);
        due(x.greedy(1), NOT);

        sentence("DRY: a well (told) is no more, and none can be dug there; unlike (but for that one)");
        x = path(2, "3", 0);
        due(x.dry(1, 0, 0), 2);
        due(x.dry(1, 0, 1), 1);
        due(x.dry(3, 0, 0), 2);
        due(x.dry(3, 0, 1), 0);
        due(x.dry(3, 1, 0), 1);
        due(x.dry(3, 1, 1), 0);
        x.mend(1, 0, 0);
        due(x.dry(1, 0, 0), NOT);
        due(x.dry(1, 0, 1), NOT);

        sentence("(if it was OLD, it is not)");
        x = path(3, "3", 0);
        x.old(1);
        due(x.dry(1, 0, 0), 2);
        due(x.dry(1, 0, 1), 1);
        x.old(5);
        due(x.dry(5, 0, 0), 4);
        due(x.dry(5, 0, 1), 0);
        due(x.old(5), 5);
        for (int door = 0; door < 3; door++) {
            x = path(3, "3", 0);
            x.old(1 << door);
            due(x.dry(1 << door, door, 0), door == 0 ? 2 : 1);
            due(x.dry(7, door, 0), 7 & ~(1 << door));
            x.old(7);
            due(x.dry(7, door, 0), 7 & ~(1 << door));
            fed(x, "o?3;9");
            due(x.dry(7, door, 1), 0);
        }

        sentence("the fewest DOORS at which it is unlike the told one; of like ones the least bits");
        x = path(5, "1", 0);
        due(x.dry(1 | 8, 0, 0), 2 | 8);
        due(x.dry(1 | 8, 3, 0), 1 | 2 | 16);
        due(x.dry(1 | 8, 3, 1), 2);
        due(x.dry(2 | 16, 4, 0), 2 | 8);
        due(x.dry(31, 2, 0), 27);
        x = path(4, "3", 0);
        due(x.dry(2, 1, 0), 1);
        due(x.dry(8, 3, 0), 1);
        x.mend(0, 0, 0);
        due(x.dry(2, 1, 0), 4);

        sentence("DRY. BAD (no well there, too); STATE: the told one may not be; NOT: none MAY BE then.");
        x = path(5);
        due(x.dry(1, 1, 0), BAD);
        due(x.dry(1, 0, 0), STATE);
        due(x.dry(2, 1, 0), 4);
        x = lone(1);
        due(x.dry(0, 0, 0), BAD);
        due(x.dry(1, 0, 0), NOT);
        due(x.dry(1, 0, 1), NOT);
        x = path(14, "13", 0);
        due(x.dry(1 << 13, 13, 0), 1);
        due(x.dry(1 << 13, 13, 1), 1);
        due(x.dry(16383, 13, 0), 8191);
        due(x.dry(16383, 0, 1), 0);
        due(x.dry(1, 13, 0), BAD);
        due(x.dry(1, 14, 0), BAD);
    }

    private static void growing() {
        sentence("GROW. STATE: more than 9 DOORS");
        due(path(9).grow(), 1 | 32);
        due(path(10).grow(), STATE);
        due(path(14).grow(), STATE);
        due(lone(9).grow(), 511);
        due(path(8).grow(), 1 | 16);
        due(path(1).grow(), 1);

        sentence("in YEAR y (0 .. 9) those DOORS are there whose YEAR is y or less");
        for (int year = 0; year <= 9; year++) {
            ThreeDoors x = path(2, "1", 2);
            x.mend(0, 1, year);
            x.mend(1, 1, 9 - year);
            due(x.grow(), year <= 9 - year ? 1 : 2);
            x.mend(1, 1, year);
            due(x.grow(), 1);
            x.mend(0, 1, Math.min(9, year + 1));
            due(x.grow(), year == 9 ? 1 : 2);
        }

        sentence("with JOINS among them (FAR by these alone)");
        ThreeDoors x = path(3, "2", 0);
        due(x.grow(), 1);
        x.mend(1, 1, 1);
        due(x.grow(), 1 | 4);
        x.near(3);
        due(x.grow(), NOT);
        x.near(2);
        due(x.grow(), 1 | 4);

        sentence("OLD wells of DOORS that are there; none: no wells");
        x = path(1);
        x.mend(0, 1, 9);
        due(x.grow(), 1);
        x.mend(0, 0, 0);
        due(x.grow(), NOT);
        x.old(1);
        due(x.grow(), 1);
        x = path(2, "1", 2);
        x.mend(1, 1, 9);
        x.old(2);
        due(x.grow(), NOT);
        x.near(0);
        due(x.grow(), 3);

        sentence("From YEAR to YEAR wells only come; no other one in rock");
        x = path(4, "1", 3);
        due(x.grow(), 1 | 8);
        x.mend(2, 1, 1);
        x.mend(3, 1, 1);
        due(x.grow(), 1 | 8);
        x.mend(0, 0, 0);
        due(x.grow(), NOT);
        x.near(2);
        due(x.grow(), 2 | 8);
        x.mend(3, 0, 0);
        due(x.grow(), NOT);
        x.near(1);
        due(x.grow(), 2 | 4);

        sentence("The fewest wells in YEAR 9, of like ones the least bits");
        x = path(9, "1", 0);
        due(x.grow(), 2 | 16 | 128);
        x.mend(4, 0, 0);
        due(x.grow(), 1 | 4 | 32 | 128);

        sentence("(j of THE LAW counts all JOINS.)");
        x = path(3, "j=2?0;2", 0);
        due(x.grow(), 2);
        x.mend(0, 1, 9);
        x.mend(2, 1, 9);
        due(x.grow(), 2);
        x = path(3, "j=1?0;2", 0);
        x.mend(1, 1, 9);
        due(x.grow(), 1 | 4);
        x = path(2, "j=1?0;2", 0);
        x.mend(1, 1, 9);
        due(x.grow(), 3);
        x = path(2, "j?0;2", 0);
        x.mend(0, 1, 9);
        due(x.grow(), 3);
    }

    private static void breaking() {
        sentence("BREAK: of WALLS that which, were it a JOIN, makes FEWEST least; that number");
        ThreeDoors x = path(8);
        due(x.breaks(0), NOT);
        x.wall(1, 1);
        due(x.breaks(0), 0);
        due(x.breaks(1), 2);
        x.wall(7, 99);
        due(x.breaks(0), 0);
        x.wall(5, 99);
        x.old(1);
        due(x.breaks(1), 1);
        due(x.breaks(0), 2);

        sentence("were it a JOIN: of one more of them at both its DOORS");
        ThreeDoors two = lone(2);
        two.near(0);
        two.wall(100, 1);
        String[] laws = {"j=1?1;0", "j?1;0", "j=2?1;0", "j=0?1;0", "1"};
        int[] many = {1, 1, 2, 2, 1};
        for (int k = 0; k < laws.length; k++) {
            fed(two, laws[k]);
            due(two.breaks(1), many[k]);
            due(two.of(0, 2), 0);
            due(two.far(1), 99);
        }

        sentence("(then by COST, then the first)");
        x.wall(500, 99);
        due(x.breaks(0), 2);
        x.mend(3, 2, 98);
        due(x.breaks(0), 3);
        x.mend(2, 2, 98);
        due(x.breaks(0), 2);
        x.mend(2, 2, 97);
        due(x.breaks(0), 2);
        x.mend(0, 2, 0);
        due(x.breaks(0), 2);

        sentence("(of those by which any MAY BE). NOT: there is none by which any MAY BE.");
        x = lone(3);
        x.near(2);
        x.old(3);
        x.wall(1, 0);
        due(x.breaks(0), NOT);
        due(x.breaks(1), NOT);
        x.wall(2, 99);
        due(x.breaks(0), 1);
        due(x.breaks(1), 2);
        x = lone(2);
        x.wall(1, 0);
        x.mend(0, 0, 0);
        x.mend(1, 0, 0);
        due(x.breaks(0), NOT);
        x.old(1);
        due(x.breaks(0), 0);
        due(x.breaks(1), 1);

        sentence("the last WALL of ten, and the most wells");
        x = lone(14);
        for (int k = 0; k < 10; k++) {
            x.wall(100 * k + k + 1, k == 9 ? 0 : 1);
        }
        due(x.breaks(0), 9);
        due(x.breaks(1), 13);
        due(x.count(1), 0);
        due(x.far(910), 99);
        x = lone(14);
        x.old(16383);
        x.near(1);
        x.wall(1, 5);
        due(x.breaks(1), 14);
        due(x.breaks(0), 0);
    }

    // ---- terms 3

    private static void byALaying() {
        sentence("GOES: the least FAR (99: NOT), then the least number");
        ThreeDoors x = path(13);
        x.door(1, 0);
        due(x.goes(1, 12), 0);
        due(x.goes(1, 13), NOT);
        due(x.goes(8192, 13), 13);
        due(x.goes(8192, 0), NOT);
        due(x.goes(0, 0), NOT);
        due(x.goes(1 | 4, 1), 0);
        due(x.goes(1 | 8, 1), 0);
        due(x.goes(1 | 8, 2), 3);
        due(x.goes(16383, 13), 13);
        due(x.goes(8191, 13), NOT);

        sentence("WORTH of a well: how many DOORS go there");
        due(x.worth(1, 0), 13);
        due(x.worth(8192, 13), 1);
        due(x.worth(1 | 4, 0), 2);
        due(x.worth(1 | 4, 2), 11);
        due(x.worth(16383, 5), 1);
        due(path(14).worth(1, 0), 14);
        due(path(2).worth(1, 1), BAD);
        due(path(2).worth(0, 0), BAD);

        sentence("SUM of all steps to wells (DOORS that go), the GREATEST (a DOOR that can't: 99)");
        due(x.steps(1, 0), 78);
        due(x.steps(1, 1), 99);
        due(x.steps(1 | 8192, 0), 78);
        due(x.steps(1 | 8192, 1), 12);
        due(x.steps(0, 0), 0);
        due(x.steps(0, 1), 99);
        due(x.steps(16383, 0), 0);
        due(x.steps(16383, 1), 0);
        due(path(14).steps(1, 0), 91);
        due(path(14).steps(1, 1), 13);

        due(path(14).steps(8192, 0), 91);
        due(path(14).steps(8192, 1), 13);
        x = path(2);
        due(x.steps(2, 0), 1);
        due(x.steps(1, 0), 1);
        x.door(1, 0);
        due(x.steps(4, 0), 0);
        due(x.steps(4, 1), 99);
        x = lone(2);
        due(x.steps(2, 0), 0);
        due(x.steps(2, 1), 99);
        due(x.steps(1, 1), 99);

        sentence("the GREATEST (1; 0 without DOORS)");
        x = new ThreeDoors();
        due(x.steps(0, 0), 0);
        due(x.steps(0, 1), 0);

        sentence("MISSED: wells without which it would be LAWFUL just the same, each by itself, if it is LAWFUL");
        x = path(2, "3", 0);
        due(x.missed(3), 3);
        due(x.missed(1), 0);
        due(x.missed(0), STATE);
        x.old(3);
        due(x.missed(3), 3);
        x.mend(0, 0, 0);
        due(x.missed(1), 0);
        x.near(2);
        due(x.missed(3), STATE);
        due(path(14, "13", 0).missed(16383), 16383);
        due(path(14, "0", 0).missed(16383), 0);
        due(new ThreeDoors().missed(0), 0);

        stood();
    }

    private static void stood() {
        sentence("STOOD: FAR to the wells of a told LAYING, the least number first");
        ThreeDoors x = path(13);
        x.door(1, 0);
        bytes(x, 0, 0, 12);
        due(x.stood(0, 1 | 1 << 12), 1);
        bytes(x, 0, 12, 0);
        due(x.stood(0, 1 | 1 << 12), 1 << 12);
        bytes(x, 0, 99, 0);
        due(x.stood(0, 1 | 1 << 13), 1 << 13);
        bytes(x, 0, 99);
        due(x.stood(0, 1), 1 << 13);
        due(x.stood(0, 1 << 13), 8191);
        bytes(x, 0, -1);
        due(x.stood(0, 1), 0);
        bytes(x, 0, 98);
        due(x.stood(0, 1 << 13), 0);

        sentence("DOORS (bits) at which all are so");
        bytes(x, 0, 1, 1);
        due(x.stood(0, 1 | 4), 2);
        bytes(x, 0, 1, 2);
        due(x.stood(0, 1 | 4), 0);
        bytes(x, 0, 2, 0);
        due(x.stood(0, 1 | 4), 4);

        sentence("(The ROW may be longer.) -13 (it has fewer than there are wells).");
        bytes(x, 0, 1, 1, 77);
        due(x.stood(0, 1 | 4), 2);
        due(x.stood(0, 1), 2);
        due(x.stood(0, 1 | 4 | 16), 0);
        due(x.stood(0, 1 | 4 | 16 | 32), -13);
        due(x.stood(0, 0), 16383);
        x.row(0, 0, 0);
        due(x.stood(0, 0), 16383);
        due(x.stood(0, 1), -13);
        x.row(0, 0, 60);
        due(x.stood(0, 1), 1);
        x.row(0, 0, 13);
        due(x.stood(0, 16383), -13);
        due(x.stood(0, 8191), 0);
        x.row(0, 0, 14);
        due(x.stood(0, 16383), 0);

        takesBits("STOOD", BoundaryTest::withARow, (town, bits) -> town.stood(0, bits));
    }

    private static ThreeDoors withARow(int doors) {
        ThreeDoors x = lone(doors);
        x.row(0, 0, 60);
        return x;
    }

    private static void turns() {
        sentence("TURNS: digs, if its PRICE is no more than a told one (0 .. 99)");
        for (int price : new int[] {1, 2, 50, 98, 99}) {
            ThreeDoors x = new ThreeDoors();
            x.door(price, 0);
            due(x.turn(price, 0), 1);
            due(x.turn(price, 1), 1);
            due(x.turn(price - 1, 0), 0);
            due(x.turn(price - 1, 1), 0);
            due(x.turn(99, 0), 1);
        }
        ThreeDoors x = new ThreeDoors();
        x.door(0, 0);
        due(x.turn(0, 0), 0);
        due(x.turn(99, 1), 0);

        sentence("one without a well within REACH, and at which one may be dug lawfully for NEAR");
        x = path(5);
        due(x.turn(10, 1), 1 | 16);
        x.near(5);
        due(x.turn(10, 1), 1);
        due(x.turn(10, 0), 1);
        x.old(1);
        due(x.turn(10, 0), 0);
        due(x.turn(10, 1), 1);
        x.near(4);
        due(x.turn(10, 0), 1);
        due(x.turn(10, 1), 1 | 16);
        due(path(4).turn(10, 1), 1);

        sentence("how many dug; the wells");
        x = lone(14);
        due(x.turn(99, 0), 14);
        due(x.turn(99, 1), 16383);
        x.old(16383);
        due(x.turn(99, 0), 0);
        x.old(1);
        due(x.turn(99, 0), 13);
        due(new ThreeDoors().turn(99, 0), 0);
        due(new ThreeDoors().turn(99, 1), 0);
    }

    private interface Asked {
        long of(ThreeDoors x);
    }

    /** Each asking call answers of the town as it is: as the first call of an object, and behind others of another town. */
    private static void askedFirstOrLater() {
        sentence("what is asked is asked of the town as it is");
        Asked[] asked = {x -> x.far(4), x -> x.judge(1), x -> x.best(0), x -> x.best(1), x -> x.best(2), x -> x.all(0),
            x -> x.all(1), x -> x.all(2), ThreeDoors::even, x -> x.greedy(0), x -> x.greedy(1), x -> x.dry(2, 1, 0),
            ThreeDoors::grow, x -> x.breaks(0), x -> x.breaks(1), x -> x.goes(17, 2), x -> x.worth(17, 0), x -> x.worth(17, 4),
            x -> x.steps(17, 0), x -> x.steps(1, 1), x -> x.missed(17), x -> x.stood(0, 1), x -> x.turn(10, 0),
            x -> x.turn(10, 1), x -> x.of(0, 3)};
        long[] due = {3, 3, 2, 26, 2, 5, 0, 1, 2, 2, 0, 4, 2, 0, 1, 4, 2, 3, 4, 3, 0, 2, 1, 2, 2};
        for (int k = 0; k < asked.length; k++) {
            due(asked[k].of(askedTown()), due[k]);
            for (Asked before : asked) {
                ThreeDoors x = askedTown();
                x.join(4);
                before.of(x);
                due(asked[k].of(x), asked[k].of(withOneMore()));
            }
        }
    }

    private static ThreeDoors withOneMore() {
        ThreeDoors x = askedTown();
        x.join(4);
        return x;
    }

    private static ThreeDoors askedTown() {
        ThreeDoors x = path(4, "2", 2);
        x.door(10, 9);
        x.join(204);
        x.wall(4, 9);
        x.mend(0, 0, 0);
        bytes(x, 0, 1);
        return x;
    }

    private static void changes() {
        sentence("CHANGES can be UNDONE, the latest first: how many may still be. STATE: none.");
        ThreeDoors x = path(1);
        x.wall(1, 1);
        x.mend(0, 0, 11);
        x.mend(0, 1, 5);
        x.mend(0, 0, 12);
        due(x.count(4), 3);
        due(x.undo(), 2);
        due(x.of(0, 0), 11);
        due(x.of(0, 1), 5);
        due(x.undo(), 1);
        due(x.of(0, 1), 0);
        due(x.undo(), 0);
        due(x.of(0, 0), 10);
        due(x.undo(), STATE);
        due(x.count(4), 0);

        sentence("DONE AGAIN: how many may still be. STATE: none.");
        due(x.redo(), 2);
        due(x.of(0, 0), 11);
        due(x.redo(), 1);
        due(x.of(0, 1), 5);
        due(x.redo(), 0);
        due(x.of(0, 0), 12);
        due(x.redo(), STATE);
        due(x.count(4), 3);

        sentence("DONE AGAIN (as long as no other came behind)");
        x.undo();
        x.undo();
        x.mend(0, 1, 9);
        due(x.redo(), STATE);
        due(x.count(4), 2);
        due(x.undo(), 1);
        due(x.of(0, 1), 0);
        due(x.redo(), 0);
        due(x.of(0, 1), 9);

        sentence("a PRICE, YEAR or COST that becomes what it is: no CHANGE, none came behind");
        x.undo();
        due(x.mend(0, 1, 0), 0);
        due(x.mend(0, 0, 11), 11);
        due(x.count(4), 1);
        due(x.redo(), 0);
        due(x.of(0, 1), 9);

        keptChanges();
        keptChangesOfAllSorts();
    }

    private static void keptChanges() {
        sentence("40 at most are kept");
        for (int many : new int[] {39, 40, 41, 42, 80, 81, 95}) {
            ThreeDoors x = path(1);
            for (int k = 1; k <= many; k++) {
                due(x.mend(0, 0, 10 + k % 80), 10 + (k - 1) % 80);
            }
            int kept = Math.min(40, many);
            due(x.count(4), kept);
            for (int k = 1; k <= kept; k++) {
                due(x.undo(), kept - k);
                due(x.of(0, 0), 10 + (many - k) % 80);
            }
            due(x.undo(), STATE);
            due(x.of(0, 0), 10 + (many - kept) % 80);
            for (int k = 1; k <= kept; k++) {
                due(x.redo(), kept - k);
            }
            due(x.redo(), STATE);
            due(x.of(0, 0), 10 + many % 80);
        }

        sentence("40 at most: those UNDONE give way to what came behind");
        ThreeDoors x = path(1);
        for (int k = 1; k <= 40; k++) {
            x.mend(0, 0, 10 + k);
        }
        for (int k = 0; k < 40; k++) {
            x.undo();
        }
        due(x.mend(0, 0, 99), 10);
        due(x.count(4), 1);
        due(x.redo(), STATE);
        due(x.undo(), 0);
        due(x.of(0, 0), 10);
        due(x.redo(), 0);
        for (int k = 1; k <= 40; k++) {
            x.mend(0, 1, k % 2 == 1 ? 9 : 8);
            due(x.count(4), Math.min(40, k + 1));
        }
        for (int k = 39; k >= 0; k--) {
            due(x.undo(), k);
        }
        due(x.of(0, 0), 99);
        due(x.of(0, 1), 0);
    }

    /** Changes of all three sorts, of more than one door and wall, more than are kept. */
    private static void keptChangesOfAllSorts() {
        sentence("CHANGES (PRICE, YEAR of DOORS; COST of WALLS); 40 at most are kept");
        ThreeDoors x = path(2);
        x.wall(1, 0);
        x.wall(100, 0);
        int[][] was = new int[47][];
        was[0] = new int[] {10, 10, 0, 0, 0, 0};
        for (int k = 0; k < 46; k++) {
            int number = k / 3 % 2;
            int v = k % 3 == 1 ? 1 + k % 9 : 40 + k;
            was[k + 1] = was[k].clone();
            was[k + 1][k % 3 * 2 + number] = v;
            due(x.mend(number, k % 3, v), was[k][k % 3 * 2 + number]);
        }
        for (int k = 45; k >= 6; k--) {
            due(x.undo(), k - 6);
            must(Arrays.equals(changeable(x), was[k]), "undone " + k);
        }
        due(x.undo(), STATE);
        for (int k = 6; k < 16; k++) {
            due(x.redo(), 45 - k);
            must(Arrays.equals(changeable(x), was[k + 1]), "done again " + k);
        }
        due(x.mend(1, 2, 99), was[16][5]);
        due(x.redo(), STATE);
        due(x.count(4), 11);
    }

    private static int[] changeable(ThreeDoors x) {
        return new int[] {x.of(0, 0), x.of(1, 0), x.of(0, 1), x.of(1, 1), x.of(0, 21), x.of(1, 21)};
    }

    // ---- terms 4

    private static void bodiesAndActs() {
        sentence("BODIES 0 .. 49 are kept by call. FULL");
        ThreeDoors x = new ThreeDoors();
        for (int n = 0; n < 50; n++) {
            due(x.act(n, 2, 0), 0);
            due(x.count(6), 0);
            due(x.body(n % 3), n);
            due(x.count(5), n + 1);
        }
        due(x.body(7), FULL);
        due(x.count(5), 50);
        due(x.act(49, 0, 0), 52);
        due(x.act(48, 0, 0), 48);
        due(x.act(50, 0, 0), 0);

        takes("a BODY of a KIND", 0, 7, v -> lone(0).body(v));
        actsThatWrap();

        sentence("0, and no TRACE then: no such BODY, ACT");
        for (int[] bad : new int[][] {{-1, 0}, {8, 0}, {0, -1}, {0, 4}, {LEAST, 0}, {GREATEST, 0}, {0, LEAST}, {0, GREATEST},
            {256, 0}, {0, 256}, {8, 4}}) {
            x = ofEachKind();
            due(x.act(5, 3, 1), 30);
            due(x.count(6), 10);
            due(x.act(bad[0], bad[1], 9), 0);
            due(x.count(6), 0);
            due(x.trace(0), BAD);
            due(x.act(0, 0, 9), 9);
            due(x.count(6), 1);
        }
        x = ofEachKind();
        due(x.act(0, 0, 0), 0);
        due(x.count(6), 1);

        sentence("THE TRACE's i-th body: of the latest act(), as they began. BAD");
        due(x.act(5, 3, 1), 30);
        int[] began = {61, 50, 2, 10, 20, 1, 60, 11, 20, 1};
        for (int i = 0; i < began.length; i++) {
            due(x.trace(i), began[i]);
        }
        for (int i : new int[] {-1, 10, 11, 23, 24, 25, LEAST, GREATEST, 256}) {
            due(x.trace(i), BAD);
        }
        x.act(0, 2, 1);
        due(x.trace(0), 11);
        due(x.trace(1), BAD);
        due(x.count(6), 1);
    }

    private static ThreeDoors ofEachKind() {
        ThreeDoors x = new ThreeDoors();
        for (int kind = 0; kind < 8; kind++) {
            x.body(kind);
        }
        return x;
    }

    private static void actsThatWrap() {
        sentence("x (an int that wraps)");
        ThreeDoors x = ofEachKind();
        due(x.act(0, 0, GREATEST), GREATEST);
        due(x.act(0, 1, GREATEST), -2);
        due(x.act(0, 1, LEAST), 0);
        due(x.act(0, 1, 1 << 30), LEAST);
        due(x.act(0, 2, LEAST), LEAST);
        due(x.act(0, 2, -1), -1);
        due(x.act(0, 3, 1 << 30), GREATEST);
        due(x.act(1, 0, GREATEST), LEAST + 3);
        due(x.act(1, 0, GREATEST - 4), GREATEST);
        due(x.act(1, 0, GREATEST - 3), LEAST);
        due(x.act(1, 1, GREATEST - 3), 0);
        due(x.act(2, 0, GREATEST), LEAST + 1);
        due(x.act(2, 1, (1 << 30) - 2), LEAST);
        due(x.act(2, 1, LEAST), -4);
        due(x.act(3, 0, LEAST), LEAST + 3);
        due(x.act(3, 1, GREATEST), -2 * (LEAST + 3));
        due(x.act(3, 2, 1 << 30), (int) (3L * ((1 << 30) ^ 3)));
        due(x.act(3, 2, GREATEST), (int) (3L * (GREATEST ^ 3)));
        due(x.act(3, 2, LEAST), (int) (3L * (LEAST ^ 3)));
        due(x.act(4, 0, GREATEST - 6), LEAST);
        due(x.act(4, 3, LEAST), (2 * (4 + 3) - (1 ^ 4)) ^ 5);
        due(x.act(5, 2, LEAST), (LEAST ^ 5) - (2 + 5 + 3));
        due(x.act(6, 0, 1 << 30), LEAST + 12);
        due(x.act(6, 0, GREATEST), 10);
        due(x.act(7, 0, GREATEST), 11);
        due(x.act(7, 0, LEAST), 13);
        due(x.act(7, 1, LEAST), 2 * 13 + (2 ^ 7));
        due(x.act(7, 2, LEAST), LEAST ^ 7);
    }

    private static void shelves() {
        sentence("SHELVES 0 .. 5 each hold nothing (at first)");
        ThreeDoors x = ofEachKind();
        for (int shelf = 0; shelf < 6; shelf++) {
            due(x.taken(shelf, 0), -11);
            due(x.put(shelf, 0, 1), -11);
            due(x.element(shelf, 0), Long.MIN_VALUE);
            due(x.shift(shelf, 0, shelf, 0, 0), -11);
            due(x.stood(shelf, 0), -11);
            due(x.joins(shelf, 0, 1), 0);
        }

        sentence("each by itself: nothing, a BODY, or a ROW");
        for (int shelf = 0; shelf < 6; shelf++) {
            due(x.keep(shelf, shelf), 1);
        }
        due(x.keep(3, -1), 1);
        due(x.row(4, 2, 1), 1);
        int[] takenAs = {0, 1, 2, -11, -12, 5};
        for (int shelf = 0; shelf < 6; shelf++) {
            due(x.taken(shelf, 0), takenAs[shelf]);
        }
        due(x.keep(4, 7), 1);
        due(x.taken(4, 0), 7);
        due(x.put(4, 0, 1), -12);
        due(x.row(5, 0, 0), 1);
        due(x.taken(5, 0), -12);
        due(x.keep(5, -1), 1);
        due(x.taken(5, 0), -11);
        due(x.put(5, 0, 0), -11);

        sentence("of 0 .. 60 elements, 0 at first");
        for (int sort = 0; sort < 5; sort++) {
            for (int n : new int[] {0, 1, 59, 60}) {
                due(x.row(0, sort, n), 1);
                if (n > 0) {
                    due(x.element(0, 0), 0);
                    due(x.element(0, n - 1), 0);
                    due(x.put(0, n - 1, 1), 1);
                    due(x.element(0, n - 1), 1);
                }
                due(x.put(0, n, 1), -13);
                due(x.put(0, -1, 1), -13);
                due(x.element(0, n), Long.MIN_VALUE);
                due(x.element(0, -1), Long.MIN_VALUE);
            }
        }
        for (int n : new int[] {61, 62, 64, 256, GREATEST}) {
            due(x.row(0, 0, n), BAD);
        }
        for (int n : new int[] {-1, -2, -60, LEAST}) {
            due(x.row(0, 0, n), -14);
        }
        x = ofEachKind();
        x.row(0, 0, 60);
        for (int i : new int[] {60, 61, 64, 256, GREATEST, -2, -60, LEAST}) {
            due(x.put(0, i, 1), -13);
            due(x.element(0, i), Long.MIN_VALUE);
        }

        lowestBits();
        takenUnder();
    }

    private static void lowestBits() {
        sentence("what is put in keeps its lowest bits (a boolean: whether it is not 0; 1 or 0)");
        long[] put = {127, 128, 255, 256, -128, -129, 32767, 32768, 65535, 65536, -32768, -32769, GREATEST, GREATEST + 1L,
            (1L << 32) - 1, 1L << 32, LEAST, LEAST - 1L, Long.MAX_VALUE, Long.MIN_VALUE, -1, 2, 0, 1};
        ThreeDoors[] of = new ThreeDoors[5];
        for (int sort = 0; sort < 5; sort++) {
            of[sort] = new ThreeDoors();
            of[sort].row(2, sort, 1);
            for (long v : put) {
                long want = sort == 0 ? (byte) v : sort == 1 ? (short) v : sort == 2 ? (int) v : sort == 3 ? v : v == 0 ? 0 : 1;
                due(of[sort].put(2, 0, v), 1);
                due(of[sort].element(2, 0), want);
            }
        }
        // the same by hand, where a sort's bounds are
        long[][] hand = {{0, 127, 127}, {0, 128, -128}, {0, -129, 127}, {0, 256, 0}, {1, 32767, 32767}, {1, 32768, -32768},
            {1, -32769, 32767}, {1, 65536, 0}, {2, GREATEST, GREATEST}, {2, GREATEST + 1L, LEAST}, {2, 1L << 32, 0},
            {3, Long.MAX_VALUE, Long.MAX_VALUE}, {3, 1L << 32, 1L << 32}, {4, 2, 1}, {4, 256, 1}, {4, 1L << 32, 1},
            {4, -1, 1}, {4, Long.MIN_VALUE, 1}, {4, 0, 0}};
        for (long[] at : hand) {
            due(of[(int) at[0]].put(2, 0, at[1]), 1);
            due(of[(int) at[0]].element(2, 0), at[2]);
        }
    }

    private static void takenUnder() {
        sentence("taken for a BODY of KIND k (0 .. 7), or under it: its KIND");
        String[] under = {"0", "01", "02", "023", "014", "0145", "06", "067"};
        for (int kind = 0; kind < 8; kind++) {
            ThreeDoors x = ofEachKind();
            x.keep(5, kind);
            for (int k = 0; k < 8; k++) {
                due(x.taken(5, k), under[kind].indexOf('0' + k) >= 0 ? kind : -12);
            }
        }
        ThreeDoors x = new ThreeDoors();
        for (int n = 0; n < 50; n++) {
            x.body(n < 49 ? 0 : 7);
        }
        due(x.keep(0, 49), 1);
        due(x.taken(0, 7), 7);
        due(x.keep(0, 48), 1);
        due(x.taken(0, 7), -12);
        due(x.taken(0, 0), 0);
        due(x.keep(0, 50), BAD);
    }

    private static void joinsFromRows() {
        sentence("by twos the one DOOR, the other: n of them: how many came");
        ThreeDoors x = lone(14);
        bytes(x, 0, 0, 13, 13, 0, 1, 2);
        due(x.joins(0, 0, 1), 1);
        due(x.of(0, 10), 13);
        due(x.joins(0, 0, 2), 2);
        due(x.of(2, 10), 1300);
        due(x.joins(0, 0, 3), 3);
        due(x.joins(0, 1, 1), 0);
        due(x.joins(0, 2, 30), 2);
        due(x.joins(0, 3, 30), 1);
        due(x.of(8, 10), 1);
        due(x.count(1), 9);

        sentence("it ends where the row is missing");
        due(x.joins(1, 0, 1), 0);
        due(x.joins(1, 0, 30), 0);

        sentence("it ends where the row ends (within a two, too)");
        due(x.joins(0, 4, 1), 1);
        due(x.joins(0, 4, 2), 1);
        due(x.joins(0, 5, 1), 0);
        due(x.joins(0, 6, 1), 0);
        due(x.joins(0, 7, 1), 0);
        due(x.joins(0, GREATEST, 1), 0);
        due(x.joins(0, GREATEST - 1, 30), 0);
        bytes(x, 1, 0, 1, 2);
        due(x.joins(1, 0, 2), 1);
        due(x.joins(1, 1, 2), 1);
        due(x.joins(1, 2, 2), 0);
        x.row(2, 0, 0);
        due(x.joins(2, 0, 1), 0);
        x.row(2, 0, 1);
        due(x.joins(2, 0, 1), 0);

        sentence("(0 with i below 0)");
        for (int i : new int[] {-1, -2, -59, -60, LEAST, LEAST + 1}) {
            due(x.joins(0, i, 1), 0);
            due(x.joins(0, i, 30), 0);
        }
        due(x.count(1), 13);

        sentence("it ends where one is not as it may be: those ahead came");
        int[][] twos = {{0, 0}, {13, 13}, {0, 14}, {14, 0}, {-1, 0}, {0, -1}, {127, 1}, {1, -128}, {1, 101}};
        for (int[] two : twos) {
            ThreeDoors y = lone(14);
            bytes(y, 0, 0, 1, two[0], two[1], 2, 3);
            due(y.joins(0, 0, 3), 1);
            due(y.count(1), 1);
            due(y.joins(0, 2, 1), 0);
            due(y.joins(0, 4, 2), 1);
        }

        sentence("or JOINS are FULL: those ahead came");
        x = lone(14);
        x.row(0, 0, 60);
        for (int k = 1; k < 60; k += 2) {
            x.put(0, k, k % 13 + 1);
        }
        due(x.joins(0, 0, 30), 30);
        due(x.joins(0, 0, 9), 9);
        due(x.count(1), 39);
        due(x.joins(0, 58, 30), 1);
        due(x.count(1), 40);
        due(x.joins(0, 0, 1), 0);
        x = lone(14);
        x.row(0, 0, 60);
        for (int k = 1; k < 60; k += 2) {
            x.put(0, k, 5);
        }
        due(x.joins(0, 0, 30), 30);
        due(x.joins(0, 0, 30), 10);
        due(x.count(1), 40);
        due(x.of(39, 10), 5);

        takes("n of them", 1, 30, v -> withARow(2).joins(0, 0, v));
    }

    private static void shifts() {
        sentence("n elements of a ROW from i on come to another one from j on: n. -13 (n below 0, too)");
        int[][] taken = {{0, 0, 0}, {0, 0, 3}, {2, 0, 3}, {5, 0, 0}, {5, 3, 0}, {0, 3, 0}, {4, 2, 1}, {3, 1, 2}};
        int[][] gone = {{0, 0, 4}, {3, 0, 3}, {0, 1, 3}, {5, 0, 1}, {6, 0, 0}, {0, 4, 0}, {0, 3, 1}, {-1, 0, 1}, {0, -1, 1},
            {-1, 0, 0}, {0, -1, 0}, {0, 0, -1}, {3, 2, -1}, {5, 3, -1}, {GREATEST, 0, 1}, {0, GREATEST, 1}, {0, 0, GREATEST},
            {GREATEST, 0, GREATEST}, {1, 1, GREATEST}, {LEAST, 0, 0}, {0, LEAST, 0}, {0, 0, LEAST}, {GREATEST, 0, LEAST},
            {LEAST, LEAST, LEAST}};
        for (int[] at : taken) {
            due(ofFiveAndThree().shift(0, at[0], 1, at[1], at[2]), at[2]);
        }
        for (int[] at : gone) {
            due(ofFiveAndThree().shift(0, at[0], 1, at[1], at[2]), -13);
        }
        ThreeDoors x = ofFiveAndThree();
        x.shift(0, 2, 1, 1, 2);
        elements(x, 0, 1, 2, 3, 4, 5);
        elements(x, 1, 6, 3, 4);
        x.row(2, 0, 60);
        x.row(3, 0, 60);
        x.put(2, 59, 9);
        due(x.shift(2, 0, 3, 0, 60), 60);
        due(x.element(3, 59), 9);
        due(x.shift(2, 59, 3, 0, 1), 1);
        due(x.element(3, 0), 9);
        due(x.shift(2, 0, 3, 0, 61), -13);
        due(x.shift(2, 59, 3, 0, 2), -13);

        sentence("(or the same), as they all were before");
        x = ofFiveAndThree();
        due(x.shift(0, 0, 0, 1, 4), 4);
        elements(x, 0, 1, 1, 2, 3, 4);
        x = ofFiveAndThree();
        due(x.shift(0, 1, 0, 0, 4), 4);
        elements(x, 0, 2, 3, 4, 5, 5);
        x = ofFiveAndThree();
        due(x.shift(0, 0, 0, 0, 5), 5);
        elements(x, 0, 1, 2, 3, 4, 5);
        due(x.shift(0, 0, 0, 1, 5), -13);
        elements(x, 0, 1, 2, 3, 4, 5);

        sentence("-12 (no ROWS, or of unlike sorts)");
        for (int sort = 0; sort < 5; sort++) {
            for (int other = 0; other < 5; other++) {
                x = new ThreeDoors();
                x.row(0, sort, 2);
                x.row(1, other, 2);
                x.put(0, 1, 1);
                due(x.shift(0, 1, 1, 0, 1), sort == other ? 1 : -12);
                due(x.element(1, 0), sort == other ? 1 : 0);
            }
        }
    }

    private static ThreeDoors ofFiveAndThree() {
        ThreeDoors x = new ThreeDoors();
        bytes(x, 0, 1, 2, 3, 4, 5);
        bytes(x, 1, 6, 7, 8);
        return x;
    }

    private static void elements(ThreeDoors x, int shelf, int... want) {
        for (int i = 0; i < want.length; i++) {
            due(x.element(shelf, i), want[i]);
        }
        due(x.put(shelf, want.length, 0), -13);
    }

    // ---- the numbers that each call takes

    /** Three doors, two joins, one wall, two bodies, bytes on the first shelf, a body on the second. */
    private static ThreeDoors town() {
        ThreeDoors x = path(3);
        x.wall(2, 1);
        x.body(7);
        x.body(0);
        bytes(x, 0, 0, 1, 2, 3);
        x.keep(1, 0);
        x.act(0, 3, 1);
        return x;
    }

    private static void numbersThatCallsTake() {
        takes("mend: PRICE (what 0), YEAR (1) of a DOOR, COST (2) of a WALL", 0, 2, v -> town().mend(0, v, 1));
        takes("mend: PRICE of a DOOR", 0, 2, v -> town().mend(v, 0, 1));
        takes("mend: PRICE", 0, 99, v -> town().mend(2, 0, v));
        takes("mend: YEAR of a DOOR", 0, 2, v -> town().mend(v, 1, 1));
        takes("mend: YEAR", 0, 9, v -> town().mend(2, 1, v));
        takes("mend: COST of a WALL", 0, 0, v -> town().mend(v, 2, 1));
        takes("mend: COST", 0, 99, v -> town().mend(0, 2, v));
        for (int what = 0; what <= 3; what++) {
            int told = what;
            takes("of a DOOR: " + what, 0, 2, v -> town().of(v, told));
        }
        takes("of a JOIN: 10", 0, 1, v -> town().of(v, 10));
        takes("of a WALL: 20", 0, 0, v -> town().of(v, 20));
        takes("of a WALL: 21", 0, 0, v -> town().of(v, 21));
        sentence("of: 0, 1, 2, 3; 10; 20, 21");
        for (int what = -300; what <= 300; what++) {
            boolean is = what >= 0 && what <= 3 || what == 10 || what == 20 || what == 21;
            must(town().of(0, what) != BAD == is, "what " + what);
        }

        takes("best", 0, 2, v -> town().best(v));
        takes("all", 0, 2, v -> town().all(v));
        takes("greedy", 0, 1, v -> town().greedy(v));
        takes("dry's DOOR with a well", 2, 2, v -> town().dry(4, v, 0));
        takes("dry's what", 0, 1, v -> town().dry(4, 2, v));
        takes("breaks", 0, 1, v -> town().breaks(v));
        takes("goes' DOOR", 0, 2, v -> town().goes(4, v));
        takes("worth's DOOR with a well", 2, 2, v -> town().worth(4, v));
        takes("steps' what", 0, 1, v -> town().steps(4, v));
        takes("turn's PRICE", 0, 99, v -> town().turn(v, 0));
        takes("turn's what", 0, 1, v -> town().turn(99, v));
        takes("trace's i", 0, 7, v -> town().trace(v));
        takes("count", 0, 6, v -> town().count(v));

        takesBits("goes", BoundaryTest::roundOfDoors, (x, bits) -> x.goes(bits, 0) + (x.count(0) == 0 && bits == 0 ? 5 : 0));
        takesBits("steps", BoundaryTest::lone, (x, bits) -> x.steps(bits, 1));
        takesBits("missed", BoundaryTest::lone, (x, bits) -> x.missed(bits));

        takes("joins' SHELF", 0, 5, v -> town().joins(v, 0, 1));
        takes("stood's SHELF", 0, 5, v -> town().stood(v, 0));
        takes("keep's SHELF", 0, 5, v -> town().keep(v, -1));
        takes("keep's BODY (or -1: nothing)", -1, 1, v -> town().keep(0, v));
        takes("row's SHELF", 0, 5, v -> town().row(v, 0, 1));
        takes("row's sort", 0, 4, v -> town().row(0, v, 1));
        takes("put's SHELF", 0, 5, v -> town().put(v, 0, 1));
        takes("shift's one SHELF", 0, 5, v -> town().shift(v, 0, 0, 0, 1));
        takes("shift's other SHELF", 0, 5, v -> town().shift(0, 0, v, 0, 1));
        takes("taken's SHELF", 0, 5, v -> town().taken(v, 0));
        takes("taken's k", 0, 7, v -> town().taken(1, v));
        sentence("element's SHELF: 0 .. 5");
        for (int shelf = -300; shelf <= 300; shelf++) {
            ThreeDoors x = town();
            if (shelf >= 0 && shelf < 6) {
                x.row(shelf, 3, 1);
                due(x.element(shelf, 0), 0);
            } else {
                due(x.element(shelf, 0), Long.MIN_VALUE);
            }
        }
    }

    private static ThreeDoors roundOfDoors(int doors) {
        ThreeDoors x = path(doors);
        x.join(doors - 1);
        return x;
    }
}
