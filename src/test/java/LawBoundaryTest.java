/** Boundaries of the tape, the texts that may be the law, and what they give. */
public final class LawBoundaryTest extends Boundary {
    private static final String LEAST_INT = "2048*2048*512";

    public static void main(String[] args) {
        tape();
        textsAndFaults();
        values();
        reaches();
        end("boundaries of the law");
    }

    private static int read(String text) {
        return fed(lone(1), text);
    }

    private static int reach(String text) {
        ThreeDoors x = lone(1);
        due(fed(x, text), 1);
        return x.of(0, 3);
    }

    /** Whether something told of ints is so: no comparison is in it but its last, so that it gives 1 or 0. */
    private static void so(String told) {
        due(reach(told), 1);
    }

    private static void tape() {
        takes("A byte comes to THE TAPE", 0, 255, v -> path(2).feed(v));

        sentence("THE TAPE (at most 120 bytes): how many it has. FULL (120)");
        ThreeDoors x = lone(1);
        for (int k = 1; k <= 120; k++) {
            due(x.count(3), k - 1);
            due(x.feed(k % 2 == 0 ? '+' : '1'), k);
        }
        due(x.feed('1'), FULL);
        due(x.count(3), 120);

        sentence("THE TAPE is empty then");
        due(x.law(), -220);
        due(x.count(3), 0);
        due(x.law(), -100);
        due(x.feed('7'), 1);
        due(x.law(), 1);
        due(x.count(3), 0);
        due(x.law(), -100);
        due(x.of(0, 3), 7);

        sentence("a TEXT of all 120 bytes: its last one counts, and its last LINE");
        due(reach(times("0+", 59) + "19"), 19);
        due(reach(times("0?1;", 29) + "0?18"), 0);
        due(reach(times("0?1;", 29) + "0+17"), 17);
        due(read(times("0?1;", 29) + "1-1;"), -220);
        due(read(times("1-", 60)), -220);
        due(read(times("1-", 59) + "1)"), -219);
        due(read(")" + times("1", 119)), -100);
    }

    private static void textsAndFaults() {
        sentence("LINES, one or more, parted by ;");
        texts(new String[] {"1", "1;1", "1;1;1", "0?1;0?1;1"});
        faults(new Object[][] {{"", 0}, {";", 0}, {"1;", 2}, {";1", 0}, {"1;;1", 2}, {"1;1;", 4}, {"1?1;", 4}});

        sentence("LINE: E, or E ? E");
        texts(new String[] {"1?1", "1?1;1?1", "(1)?(1)"});
        faults(new Object[][] {{"?", 0}, {"?1", 0}, {"1?", 2}, {"1??1", 2}, {"1?1?1", 3}, {"1?;1", 2}, {"(1?1)", 2},
            {"1;1?1?1", 5}, {"(1;1)", 2}});

        sentence("E = A { | A }. A = B { & B }");
        texts(new String[] {"1|1|1|1", "1&1&1&1", "1|1&1|1", "1&1|1&1"});
        faults(new Object[][] {{"|1", 0}, {"1|", 2}, {"1||1", 2}, {"&1", 0}, {"1&", 2}, {"1&&1", 2}, {"1|&1", 2}});

        sentence("B = S, or S < S, S = S, S > S");
        texts(new String[] {"1<1", "1=1", "1>1", "1<1&1=1", "1<1|1>1", "(1<1)<1", "1=(1=1)", "1<1?1<1", "1<1;1<1"});
        faults(new Object[][] {{"1<1<1", 3}, {"1=1=1", 3}, {"1>1>1", 3}, {"1<1>1", 3}, {"1=1<1", 3}, {"(1<1<1)", 4},
            {"1<=1", 2}, {"1>=1", 2}, {"1==1", 2}, {"1!=1", 1}, {"<1", 0}, {"1<", 2}, {"1+1<1+1<1", 7},
            {"1&1<1<1", 5}});

        sentence("S = P { + P, - P }. P = O { * O, / O, % O }");
        texts(new String[] {"1+1-1+1", "1*1/1%1", "1*1+1/1-1%1", "1--1", "1*-1", "1+!1"});
        faults(new Object[][] {{"+1", 0}, {"1+", 2}, {"1-", 2}, {"1+*1", 2}, {"*1", 0}, {"/1", 0}, {"%1", 0},
            {"1*", 2}, {"1/", 2}, {"1%", 2}, {"1//1", 2}, {"1*/1", 2}, {"1++1", 2}});

        sentence("a number (1 to 4 digits)");
        texts(new String[] {"0", "9", "00", "99", "000", "999", "0000", "9999", "1234+5678", "0001;0002?0003"});
        faults(new Object[][] {{"00000", 4}, {"12345", 4}, {"99999", 4}, {"1+12345", 6}, {"(12345)", 5},
            {"1;00001", 6}});

        sentence("No blanks.");
        faults(new Object[][] {{" ", 0}, {" 1", 0}, {"1 ", 1}, {"1 +1", 1}, {"1+ 1", 2}, {"( 1)", 1}, {"1\n", 1},
            {"1\t", 1}, {"! 1", 1}, {"1; 1", 2}});

        open();
        everyByte();
    }

    private static void open() {
        sentence("At most 6 of ( ! - ahead of an O are open at once.");
        for (String sign : new String[] {"(", "!", "-"}) {
            String close = sign.equals("(") ? ")" : "";
            for (int many = 0; many <= 6; many++) {
                due(read(times(sign, many) + "1" + times(close, many)), 1);
                due(read("1-" + times(sign, many) + "1" + times(close, many)), 1);
            }
            due(read(times(sign, 7) + "1" + times(close, 7)), -106);
            due(read(times(sign, 8) + "1" + times(close, 8)), -106);
            due(read("1-" + times(sign, 7) + "1" + times(close, 7)), -108);
            for (String other : new String[] {"(", "!", "-"}) {
                due(read("(((" + times(sign, 2) + other + "1"), -107);
                due(read("(((" + times(sign, 3) + other + "1"), -106);
            }
        }
        texts(new String[] {"!-!-!-1", "(!(-(!1)))", "!(-(!(1)))", "-(((((1)))))", "(((((-1)))))",
            "(((((1)+(1)))))"});
        faults(new Object[][] {{"!-!-!-!1", 6}, {"(((((--1", 6}, {"!!!!!!(1", 6}, {"(((((1)+(((1", 10}});

        sentence("open: with its O a ! or - is open no more, nor is a ( behind its )");
        texts(new String[] {times("(", 6) + "1" + times(")", 6) + "+" + times("(", 6) + "1" + times(")", 6),
            "!!!!!!1+!!!!!!1", "------1-------1", "(((((!1+!1)))))", "(((((-1*-1)))))", "(((((1)))))*(((((1)))))",
            "((((((1)))))+1)", "((((((1)+1)+1)+1)+1)+1)", "!1+!1+!1+!1+!1+!1+!1+!1", "-1;-1;-1;-1;-1;-1;-1;-1",
            "(1)+(1)+(1)+(1)+(1)+(1)+(1)+(1)", "!!!1?---1;!!!1", "((((((1))))))?((((((1))))))"});
        faults(new Object[][] {{"((((((1)+((1", 10}, {"!!!!!!1+!!!!!!!1", 14}, {"(((((!1+!!1", 9},
            {"((((((1))))))?(((((((1", 20}, {"-1;-------1", 9}});
    }

    private static void texts(String[] texts) {
        for (String text : texts) {
            due(read(text), 1);
        }
    }

    private static void faults(Object[][] faults) {
        for (Object[] fault : faults) {
            due(read((String) fault[0]), -100 - (int) fault[1]);
        }
    }

    /** Each of all 256 bytes behind a beginning: it is the fault, or ends a text, or the text ends too early. */
    private static void everyByte() {
        sentence("FAULT: the place (from 0) of the first byte with which no TEXT goes on; the length, if it ends early");
        behind("", "0123456789dpyjo", "(!-");
        behind("!", "0123456789dpyjo", "(!-");
        behind("(((((", "", "0123456789dpyjo(!-");
        behind("((((((", "", "0123456789dpyjo");
        behind("------", "0123456789dpyjo", "");
        behind("1", "0123456789", "|&<=>+-*/%?;");
        behind("123", "0123456789", "|&<=>+-*/%?;");
        behind("1234", "", "|&<=>+-*/%?;");
        behind("d", "", "|&<=>+-*/%?;");
        behind("(1)", "", "|&<=>+-*/%?;");
        behind("1<1", "0123456789", "|&+-*/%?;");
        behind("1=d", "", "|&+-*/%?;");
        behind("1>1&1", "0123456789", "|&<=>+-*/%?;");
        behind("1>1|o", "", "|&<=>+-*/%?;");
        behind("1?1", "0123456789", "|&<=>+-*/%;");
        behind("1?1;1", "0123456789", "|&<=>+-*/%?;");
        behind("1?", "0123456789dpyjo", "(!-");
        behind("1;", "0123456789dpyjo", "(!-");
        behind("1+", "0123456789dpyjo", "(!-");
        behind("1<", "0123456789dpyjo", "(!-");
        behind("(1", ")", "0123456789|&<=>+-*/%");
        behind("(1<1", ")", "0123456789|&+-*/%");
        behind("(d", ")", "|&<=>+-*/%");
    }

    private static void behind(String beginning, String ends, String goOn) {
        for (int letter = 0; letter < 256; letter++) {
            int place = beginning.length();
            int want = ends.indexOf(letter) >= 0 ? 1 : goOn.indexOf(letter) >= 0 ? -101 - place : -100 - place;
            int got = read(beginning + (char) letter);
            must(got == want, "byte " + letter + " behind " + beginning + ": " + got + ", not " + want);
        }
    }

    private static void values() {
        sentence("Ints that wrap");
        so(LEAST_INT + "<0");
        so(LEAST_INT + "-1>0");
        so(LEAST_INT + "-1+1<0");
        so("2048*2048*1024=0");
        so("2048*2048*511+2048*2047+2047+2048*2048*0>0");
        so("9999*9999*21>0");
        so("9999*9999*22<0");
        so("9999*9999*60>0");
        so("9999*9999*22=0-2048*2048*499-1024*2392-170");
        so("-(" + LEAST_INT + ")<0");
        so("0-" + LEAST_INT + "<0");
        so("-(" + LEAST_INT + "-1)<0");
        so("-(" + LEAST_INT + "-1)-1=" + LEAST_INT);
        so(LEAST_INT + "*2=0");
        so(LEAST_INT + "*3=" + LEAST_INT);
        so(LEAST_INT + "+" + LEAST_INT + "=0");
        so(LEAST_INT + "/-1=" + LEAST_INT);
        so(LEAST_INT + "%-1=0");
        so("(" + LEAST_INT + "-1)*(" + LEAST_INT + "-1)=1");

        sentence("/ and % toward 0");
        for (String told : new String[] {"7/2=3", "-7/2=-3", "7/-2=-3", "-7/-2=3", "1/2=0", "-1/2=0", "7%2=1",
            "-7%2=-1", "7%-2=1", "-7%-2=-1", "6%2=0", "-6%2=0", "9999/9999=1", "9998/9999=0", "9998%9999=9998",
            "7/1=7", "7%1=0"}) {
            so(told);
        }

        sentence("/ and % by 0 they give 0");
        for (String told : new String[] {"1/0=0", "0/0=0", "-5/0=0", "9999/0=0", "5%0=0", "0%0=0", "-5%0=0",
            "7/(1-1)=0", "7%(1-1)=0", "7+5/0=7", "7+5%0=7", "5/0/0=0", "5/0%0=0", "7/o=0", LEAST_INT + "/0=0",
            LEAST_INT + "%0=0"}) {
            so(told);
        }

        sentence("| & < = > ! give 1, 0");
        String[] one = {"1|0", "0|1", "2|4", "-1|0", "0|-1", "1&1", "1&2", "-1&-2", "4&3", "0<1", "-1<0", "0=0",
            "-1=0-1", "9999=9999", "1>0", "0>-1", "!0", "!!5", "!!-1", "!(1-1)"};
        String[] none = {"0|0", "0&0", "1&0", "0&1", "2&0", "1<1", "1<0", "0<-1", "1=0", "1=-1", "1>1", "0>1", "-1>0",
            "!1", "!2", "!-1", "!9999", "!!0"};
        for (String told : one) {
            due(reach(told), 1);
            due(reach("(" + told + ")*7"), 7);
        }
        for (String told : none) {
            due(reach(told), 0);
            due(reach("(" + told + ")+7"), 7);
        }

        names();
        lines();
    }

    private static void names() {
        sentence("NAMES: d the DOOR, p PRICE, y YEAR, j how many JOINS it has, o 1, if an OLD well is there");
        ThreeDoors x = new ThreeDoors();
        for (int d = 0; d < 14; d++) {
            x.door(d == 13 ? 99 : d == 12 ? 20 : 0, d == 13 ? 9 : 0);
        }
        for (int k = 0; k < 20; k++) {
            x.join(k % 2 == 0 ? 13 : 1300);
        }
        x.old(1 << 13 | 1 << 5);
        String[] laws = {"d", "p", "y", "j", "o", "p-80", "j+d", "o*9+d"};
        int[] first = {0, 0, 0, 20, 0, 0, 20, 0};
        int[] last = {13, 20, 9, 20, 1, 19, 20, 20};
        for (int k = 0; k < laws.length; k++) {
            due(fed(x, laws[k]), 1);
            due(x.of(0, 3), first[k]);
            due(x.of(13, 3), last[k]);
        }
        due(x.of(12, 3), 12);
        due(x.of(5, 3), 14);
        fed(x, "p");
        due(x.of(12, 3), 20);
        fed(x, "j");
        due(x.of(1, 3), 0);
        fed(x, "o+1");
        due(x.of(5, 3), 2);
        due(x.of(4, 3), 1);
        x.old(0);
        due(x.of(5, 3), 1);
    }

    private static void lines() {
        sentence("The first LINE without a first E, or whose first E is not 0, counts; none: 0.");
        due(reach("5"), 5);
        due(reach("5;6"), 5);
        due(reach("0;6"), 0);
        due(reach("1?5;6"), 5);
        due(reach("-1?5;6"), 5);
        due(reach(LEAST_INT + "?5;6"), 5);
        due(reach("2?5;6"), 5);
        due(reach("0?5;6"), 6);
        due(reach("0?5;1?6;7"), 6);
        due(reach("0?5;0?6;7"), 7);
        due(reach("0?5;6;1?7"), 6);
        due(reach("1?0;6"), 0);
        due(reach("1?0-1;6"), 0);
        due(reach("0?5"), 0);
        due(reach("0?5;0?6"), 0);
        due(reach("1-1?5;0?6;0?7"), 0);
    }

    private static void reaches() {
        sentence("REACH (held within 0 .. 20)");
        String[] laws = {"0-9999", "0-1", "-1", "0", "1", "19", "20", "21", "9999", LEAST_INT, LEAST_INT + "-1",
            "0-20"};
        int[] wants = {0, 0, 0, 0, 1, 19, 20, 20, 20, 0, 20, 0};
        for (int k = 0; k < laws.length; k++) {
            due(reach(laws[k]), wants[k]);
        }

        sentence("Without a text 3.");
        ThreeDoors x = lone(14);
        due(x.of(0, 3), 3);
        due(x.of(13, 3), 3);
        x.feed('7');
        due(x.of(0, 3), 3);
        due(path(4).judge(1), NOT);
        due(path(5).judge(1), 4);

        sentence("what is no TEXT does not become THE LAW");
        x = lone(1);
        due(fed(x, "7+"), -102);
        due(x.of(0, 3), 3);
        due(fed(x, "7"), 1);
        due(fed(x, ""), -100);
        due(x.of(0, 3), 7);
        due(fed(x, "8;"), -102);
        due(x.of(0, 3), 7);

        sentence("how FAR a well may be from that DOOR at most");
        for (int most = 0; most <= 13; most++) {
            due(path(14, String.valueOf(most), 0).judge(1), most == 13 ? NOT : most + 1);
        }
        due(path(3, "0", 0).judge(7), NOT);
        due(path(3, "0", 0).judge(3), 2);
        x = lone(2);
        fed(x, "9999");
        due(x.judge(1), 1);
        due(x.judge(2), 0);
        x = path(3, "d=0?2;d=1?0;9", 0);
        due(x.judge(4), 1);
        due(x.judge(2), NOT);
    }
}
