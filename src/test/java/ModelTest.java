import java.util.ArrayList;
import java.util.Arrays;
import java.util.List;
import java.util.Random;
import java.util.TreeSet;

/**
 * Long runs of random calls, each answer held against a model that works the document's words out in the most
 * roundabout way: distances by relaxing, every laying tried, the law read by backtracking, bodies as real classes.
 */
public final class ModelTest {
    // an object is used for at most 512 calls, and a step takes up to 141 (a law of 125 bytes, of 14 doors)
    private static final int LAST_STEP = 512 - 141;
    private static int wrong = 0;
    private static long calls = 0;

    public static void main(String[] args) {
        for (int seed = 1; seed <= 1500; seed++) {
            new Run(seed).go();
        }
        System.out.println(wrong == 0 ? "model: " + calls + " answers are as due" : "model: " + wrong + " are not");
        if (wrong != 0) {
            System.exit(1);
        }
    }

    /** One object and its model, side by side. */
    private static final class Run {
        final int seed;
        final Random random;
        final ThreeDoors real = new ThreeDoors();
        final Model model = new Model();
        final List<String> told = new ArrayList<>();
        final int mostDoors;

        Run(int seed) {
            this.seed = seed;
            random = new Random(seed);
            mostDoors = seed % 20 == 0 ? 14 : seed % 4 == 0 ? 9 : 3 + seed % 5;
        }

        void go() {
            int before = wrong;
            setUp();
            while (told.size() <= LAST_STEP && wrong == before) {
                step();
            }
            if (wrong != before) {
                System.out.println("seed " + seed + ": " + String.join("; ", told));
            }
        }

        void due(String call, long got, long want) {
            calls++;
            told.add(call);
            if (got != want) {
                wrong++;
                System.out.println("seed " + seed + ": " + call + " answered " + got + ", due is " + want);
            }
        }

        int any(int from, int to) {
            return from + random.nextInt(to - from + 1);
        }

        /** Mostly within the bounds, now and then just beyond them, seldom far away. */
        int about(int from, int to) {
            int kind = random.nextInt(40);
            if (kind == 0) return from - 1;
            if (kind == 1) return to + 1;
            if (kind == 2) return random.nextBoolean() ? Integer.MAX_VALUE : Integer.MIN_VALUE;
            if (kind == 3) return random.nextInt();
            return to < from ? from : any(from, to);
        }

        int pair() {
            int last = Math.max(0, model.price.size() - 1);
            return random.nextInt(25) == 0 ? about(-5, 1500) : 100 * about4(last) + about4(last);
        }

        int about4(int last) {
            return random.nextInt(30) == 0 ? last + 1 : any(0, last);
        }

        int wells() {
            int doors = model.price.size();
            if (random.nextInt(30) == 0) return about(-1, (1 << doors));
            if (random.nextInt(3) == 0) {
                List<Integer> may = model.allThatMayBe(model.whole());
                if (!may.isEmpty()) return may.get(random.nextInt(may.size()));
            }
            int bits = random.nextInt(1 << doors);
            return random.nextInt(3) == 0 ? bits & random.nextInt(1 << doors) : bits;
        }

        int aDoor() {
            return about(0, model.price.size() - 1);
        }

        void door(int price, int year) {
            due("door(" + price + ", " + year + ")", real.door(price, year), model.door(price, year));
        }

        void join(int ab) {
            due("join(" + ab + ")", real.join(ab), model.join(ab));
        }

        void setUp() {
            int doors = any(0, mostDoors);
            for (int k = 0; k < doors; k++) {
                door(random.nextInt(5) == 0 ? 0 : any(1, 99), random.nextInt(3) == 0 ? any(0, 9) : 0);
            }
            int joins = doors < 2 ? 0 : any(doors / 2, doors + 4);
            for (int k = 0; k < joins; k++) {
                join(k + 1 < doors && random.nextInt(6) != 0 ? 100 * k + k + 1 : pair());
            }
            int near = any(0, 5);
            due("near(" + near + ")", real.near(near), model.near(near));
        }

        void step() {
            switch (random.nextInt(46)) {
                case 0: if (model.price.size() < mostDoors || random.nextInt(9) == 0) townDoor(); break;
                case 1: join(pair()); break;
                case 2: townJoins(); break;
                case 3: townWall(); break;
                case 4: { int b = random.nextInt(4) == 0 ? wells() : wells() & wells() & wells();
                    due("old(" + b + ")", real.old(b), model.old(b)); break; }
                case 5: { int v = about(0, random.nextInt(3) == 0 ? 9 : 4);
                    due("near(" + v + ")", real.near(v), model.near(v)); break; }
                case 6: case 7: case 8: townMend(); break;
                case 9: case 10: townOf(); break;
                case 11: case 12: case 13: feedLaw(); break;
                case 14: { int ab = pair(); due("far(" + ab + ")", real.far(ab), model.far(ab)); break; }
                case 15: case 16: { int b = wells(); due("judge(" + b + ")", real.judge(b), model.judge(b)); break; }
                case 17: case 18: { int w = about(0, 2);
                    due("best(" + w + ")", real.best(w), model.best(w)); break; }
                case 19: { int w = about(0, 2); due("all(" + w + ")", real.all(w), model.all(w)); break; }
                case 20: due("even()", real.even(), model.even()); break;
                case 21: { int w = about(0, 1); due("greedy(" + w + ")", real.greedy(w), model.greedy(w)); break; }
                case 22: case 23: case 24: dry(); break;
                case 25: case 26: due("grow()", real.grow(), model.grow()); break;
                case 27: case 28: { int w = about(0, 1);
                    due("breaks(" + w + ")", real.breaks(w), model.breaks(w)); break; }
                case 29: { int b = wells(), d = aDoor();
                    due("goes(" + b + ", " + d + ")", real.goes(b, d), model.goes(b, d)); break; }
                case 30: { int b = wells(), d = aDoor();
                    due("worth(" + b + ", " + d + ")", real.worth(b, d), model.worth(b, d)); break; }
                case 31: { int b = wells(), w = about(0, 1);
                    due("steps(" + b + ", " + w + ")", real.steps(b, w), model.steps(b, w)); break; }
                case 32: { int b = wells(); due("missed(" + b + ")", real.missed(b), model.missed(b)); break; }
                case 33: case 34: stood(); break;
                case 35: { int p = about(0, 99), w = about(0, 1);
                    due("turn(" + p + ", " + w + ")", real.turn(p, w), model.turn(p, w)); break; }
                case 36: due("undo()", real.undo(), model.undo()); break;
                case 37: due("redo()", real.redo(), model.redo()); break;
                case 38: case 39: bodies(); break;
                default: shelves(); break;
            }
            if (random.nextInt(8) == 0) {
                int w = about(0, 6);
                due("count(" + w + ")", real.count(w), model.count(w));
            }
        }

        void townDoor() {
            door(about(0, 99), about(0, 9));
        }

        void townJoins() {
            int shelf = about(0, 5), i = about(0, 6), n = about(1, 30);
            if (random.nextInt(2) == 0 && shelf >= 0 && shelf < 6) {
                int size = any(0, 9);
                due("row(" + shelf + ", 0, " + size + ")", real.row(shelf, 0, size), model.row(shelf, 0, size));
                for (int k = 0; k < size; k++) {
                    int v = about4(Math.max(0, model.price.size() - 1));
                    due("put(" + shelf + ", " + k + ", " + v + ")", real.put(shelf, k, v), model.put(shelf, k, v));
                }
            }
            due("joins(" + shelf + ", " + i + ", " + n + ")", real.joins(shelf, i, n), model.joins(shelf, i, n));
        }

        void townWall() {
            int ab = pair(), c = about(0, random.nextInt(2) == 0 ? 99 : 3);
            due("wall(" + ab + ", " + c + ")", real.wall(ab, c), model.wall(ab, c));
        }

        void townMend() {
            int what = about(0, 2);
            int number = about(0, what == 2 ? model.wall.size() - 1 : model.price.size() - 1);
            int v = about(0, what == 1 ? 9 : 99);
            if (random.nextInt(4) == 0) {
                int is = model.of(number, what == 2 ? 21 : what);
                v = is < 0 ? v : is;
            }
            due("mend(" + number + ", " + what + ", " + v + ")",
                real.mend(number, what, v), model.mend(number, what, v));
        }

        void townOf() {
            int[] whats = {0, 1, 2, 3, 3, 3, 10, 20, 21, 4, -1, 11, 22, 9, 19};
            int what = whats[random.nextInt(whats.length)];
            int size = what < 9 ? model.price.size() : what < 19 ? model.join.size() : model.wall.size();
            int number = about(0, size - 1);
            due("of(" + number + ", " + what + ")", real.of(number, what), model.of(number, what));
        }

        void feedLaw() {
            String text = random.nextInt(4) == 0 ? Texts.scrambled(random) : Texts.text(random);
            for (int k = 0; k < text.length() && k < 125; k++) {
                int letter = text.charAt(k);
                if (random.nextInt(60) == 0) {
                    letter = about(0, 255);
                }
                due("feed(" + letter + ")", real.feed(letter), model.feed(letter));
            }
            if (random.nextInt(10) != 0) {
                due("law()", real.law(), model.law());
            }
            for (int door = 0; door < model.price.size(); door++) {
                due("of(" + door + ", 3)", real.of(door, 3), model.of(door, 3));
            }
        }

        void dry() {
            int bits = wells();
            int door = aDoor();
            if (bits != 0 && random.nextInt(10) != 0) {
                while (door < 0 || door > 31 || (bits >> door & 1) == 0) {
                    door = any(0, 31);
                }
            }
            int what = about(0, 1);
            due("dry(" + bits + ", " + door + ", " + what + ")",
                real.dry(bits, door, what), model.dry(bits, door, what));
        }

        void stood() {
            int shelf = about(0, 5), bits = wells();
            if (random.nextInt(3) != 0 && shelf >= 0 && shelf < 6 && model.isTown(bits)) {
                int door = any(0, Math.max(0, model.price.size() - 1));
                int size = Math.max(0, Integer.bitCount(bits) + any(-1, 2));
                due("row(" + shelf + ", 0, " + size + ")", real.row(shelf, 0, size), model.row(shelf, 0, size));
                int place = 0;
                for (int well = 0; well < model.price.size(); well++) {
                    if ((bits >> well & 1) != 0) {
                        int v = model.far(100 * door + well) + (random.nextInt(15) == 0 ? 1 : 0);
                        due("put(" + shelf + ", " + place + ", " + v + ")",
                            real.put(shelf, place, v), model.put(shelf, place, v));
                        place++;
                    }
                }
            }
            due("stood(" + shelf + ", " + bits + ")", real.stood(shelf, bits), model.stood(shelf, bits));
        }

        void bodies() {
            int kind = about(0, 7);
            due("body(" + kind + ")", real.body(kind), model.body(kind));
            for (int k = 0; k < 3; k++) {
                int body = about(0, model.kinds.size() - 1), act = about(0, 3);
                int x = random.nextInt(3) == 0 ? random.nextInt() : any(-20, 20);
                due("act(" + body + ", " + act + ", " + x + ")", real.act(body, act, x), model.act(body, act, x));
                due("count(6)", real.count(6), model.count(6));
                for (int i = -1; i <= model.trace.size(); i++) {
                    due("trace(" + i + ")", real.trace(i), model.trace(i));
                }
            }
        }

        void shelves() {
            int shelf = about(0, 5), other = about(0, 5);
            switch (random.nextInt(7)) {
                case 0: { int b = about(-1, model.kinds.size() - 1);
                    due("keep(" + shelf + ", " + b + ")", real.keep(shelf, b), model.keep(shelf, b)); break; }
                case 1: { int s = about(0, 4), n = about(0, random.nextInt(3) == 0 ? 60 : 8);
                    due("row(" + shelf + ", " + s + ", " + n + ")", real.row(shelf, s, n), model.row(shelf, s, n));
                    break; }
                case 2: case 3: { int i = about(0, 8);
                    long v = random.nextInt(3) == 0 ? random.nextLong() : about(-300, 300);
                    due("put(" + shelf + ", " + i + ", " + v + ")", real.put(shelf, i, v), model.put(shelf, i, v));
                    due("element(" + shelf + ", " + i + ")", real.element(shelf, i), model.element(shelf, i));
                    break; }
                case 4: { int i = about(0, 60);
                    due("element(" + shelf + ", " + i + ")", real.element(shelf, i), model.element(shelf, i));
                    break; }
                case 5: { int i = about(0, 5), j = about(0, 5), n = about(0, 5);
                    due("shift(" + shelf + ", " + i + ", " + other + ", " + j + ", " + n + ")",
                        real.shift(shelf, i, other, j, n), model.shift(shelf, i, other, j, n));
                    for (int k = 0; k < 9; k++) {
                        due("element(" + other + ", " + k + ")", real.element(other, k), model.element(other, k));
                    }
                    break; }
                default: { int k = about(0, 7);
                    due("taken(" + shelf + ", " + k + ")", real.taken(shelf, k), model.taken(shelf, k)); break; }
            }
        }
    }

    /** Random texts: good ones by the grammar, and some that are spoilt at one place. */
    private static final class Texts {
        static String text(Random r) {
            StringBuilder s = new StringBuilder();
            int lines = 1 + r.nextInt(3);
            for (int k = 0; k < lines; k++) {
                s.append(k > 0 ? ";" : "");
                if (k + 1 < lines || r.nextInt(3) == 0) {
                    s.append(sum(r, 2)).append('?');
                }
                s.append(sum(r, 2));
            }
            return s.toString();
        }

        static String scrambled(Random r) {
            StringBuilder s = new StringBuilder(text(r));
            String letters = "dpyjo0123456789+-*/%<>=|&!()?;((((--!!";
            for (int k = 1 + r.nextInt(3); k > 0; k--) {
                char c = r.nextInt(12) == 0 ? (char) r.nextInt(256) : letters.charAt(r.nextInt(letters.length()));
                int at = r.nextInt(s.length() + 1);
                if (r.nextBoolean() && at < s.length()) {
                    s.setCharAt(at, c);
                } else {
                    s.insert(at, c);
                }
            }
            if (r.nextInt(4) == 0) {
                s.setLength(r.nextInt(s.length() + 1));
            }
            return s.toString();
        }

        static String sum(Random r, int deep) {
            StringBuilder s = new StringBuilder(operand(r, deep));
            for (int k = r.nextInt(4); k > 0; k--) {
                // one comparison in a row at the most, most of the time
                s.append("+-*/%+-*/%<=>|&".charAt(r.nextInt(15))).append(operand(r, deep));
            }
            return s.toString();
        }

        static String operand(Random r, int deep) {
            switch (r.nextInt(deep > 0 ? 7 : 4)) {
                case 0: return String.valueOf(r.nextInt(r.nextBoolean() ? 6 : r.nextBoolean() ? 10000 : 40));
                case 1: case 2: case 3: return String.valueOf("dpyjo".charAt(r.nextInt(5)));
                case 4: return "!" + operand(r, deep - 1);
                case 5: return "-" + operand(r, deep - 1);
                default: return "(" + sum(r, deep - 1) + ")";
            }
        }
    }

    /** The law: which bytes are a text is found by trying every way to part them, the value by the same parting. */
    private static final class Grammar {
        static boolean isText(String s) {
            for (String line : parts(s, ";")) {
                int ask = line.indexOf('?');
                boolean good = ask < 0 ? isE(line, 0) : isE(line.substring(0, ask), 0)
                    && isE(line.substring(ask + 1), 0);
                if (!good) {
                    return false;
                }
            }
            return true;
        }

        static List<String> parts(String s, String by) {
            return Arrays.asList(s.split(by, -1));
        }

        static boolean isE(String s, int open) {
            return among(s, "|", 1, open);
        }

        /** Whether s is one or more of the next rank, parted by the signs, by each way to cut off the last of them. */
        static boolean among(String s, String signs, int next, int open) {
            if (isOf(s, next, open)) {
                return true;
            }
            for (int k = s.length() - 1; k > 0; k--) {
                if (signs.indexOf(s.charAt(k)) >= 0 && isOf(s.substring(k + 1), next, open)
                    && among(s.substring(0, k), signs, next, open)) {
                    return true;
                }
            }
            return false;
        }

        static boolean isOf(String s, int rank, int open) {
            if (s.isEmpty()) return false;
            if (rank == 1) return among(s, "&", 2, open);
            if (rank == 2) return isB(s, open);
            if (rank == 3) return among(s, "+-", 4, open);
            if (rank == 4) return among(s, "*/%", 5, open);
            return isO(s, open);
        }

        static boolean isB(String s, int open) {
            if (isOf(s, 3, open)) return true;
            for (int k = 1; k < s.length() - 1; k++) {
                if ("<=>".indexOf(s.charAt(k)) >= 0 && isOf(s.substring(0, k), 3, open)
                    && isOf(s.substring(k + 1), 3, open)) {
                    return true;
                }
            }
            return false;
        }

        static boolean isO(String s, int open) {
            if (s.isEmpty()) return false;
            char c = s.charAt(0);
            if (s.matches("[0-9]{1,4}|[dpyjo]")) return true;
            if (open == 6) return false;
            if (c == '!' || c == '-') return isO(s.substring(1), open + 1);
            return c == '(' && s.length() > 2 && s.charAt(s.length() - 1) == ')'
                && isE(s.substring(1, s.length() - 1), open + 1);
        }

        /** A text goes on behind s, if it ends well with an operand or none, and with some brackets closed. */
        static boolean goesOn(String s) {
            String closing = "";
            for (int k = 0; k <= 6; k++) {
                if (isText(s + closing) || isText(s + "0" + closing)) {
                    return true;
                }
                closing += ")";
            }
            return false;
        }

        static int faultOf(String s) {
            if (isText(s)) return -1;
            for (int k = 1; k <= s.length(); k++) {
                if (!goesOn(s.substring(0, k))) return k - 1;
            }
            return s.length();
        }

        static int valueOf(String text, int[] names) {
            for (String line : parts(text, ";")) {
                int ask = line.indexOf('?');
                if (ask < 0) return value(line, names);
                if (value(line.substring(0, ask), names) != 0) return value(line.substring(ask + 1), names);
            }
            return 0;
        }

        /** The last sign of the lowest rank outside of brackets, that is no sign ahead of an operand, is worked last. */
        static int value(String s, int[] names) {
            for (String signs : new String[] {"|", "&", "<=>", "+-", "*/%"}) {
                int open = 0;
                for (int k = s.length() - 1; k > 0; k--) {
                    char c = s.charAt(k);
                    open += c == ')' ? 1 : c == '(' ? -1 : 0;
                    if (open == 0 && signs.indexOf(c) >= 0 && "+-*/%<=>|&!(".indexOf(s.charAt(k - 1)) < 0) {
                        return joined(c, value(s.substring(0, k), names), value(s.substring(k + 1), names));
                    }
                }
            }
            char c = s.charAt(0);
            if (c == '!') return value(s.substring(1), names) == 0 ? 1 : 0;
            if (c == '-') return -value(s.substring(1), names);
            if (c == '(') return value(s.substring(1, s.length() - 1), names);
            int name = "dpyjo".indexOf(c);
            return name >= 0 ? names[name] : Integer.parseInt(s);
        }

        static int joined(char c, int a, int b) {
            boolean holds = c == '|' ? a != 0 || b != 0 : c == '&' ? a != 0 && b != 0
                : c == '<' ? a < b : c == '=' ? a == b : c == '>' && a > b;
            switch (c) {
                case '+': return a + b;
                case '-': return a - b;
                case '*': return a * b;
                case '/': return b == 0 ? 0 : a / b;
                case '%': return b == 0 ? 0 : a % b;
                default: return holds ? 1 : 0;
            }
        }
    }

    /** The town as it is looked at in one question: which doors are there, old wells, a wall more, a door less. */
    private record View(int there, int old, int broken, int barred) { }

    private static final class Model {
        final List<Integer> price = new ArrayList<>();
        final List<Integer> year = new ArrayList<>();
        final List<int[]> join = new ArrayList<>();
        final List<int[]> wall = new ArrayList<>();
        int old = 0;
        int near = 4;
        String tape = "";
        String law = null;
        final List<int[]> undo = new ArrayList<>();
        final List<int[]> redo = new ArrayList<>();
        final List<Laying> kinds = new ArrayList<>();
        final List<Integer> trace = new ArrayList<>();
        final Object[] shelf = new Object[6];

        boolean isDoor(int d) { return d >= 0 && d < price.size(); }
        boolean isTown(int bits) { return bits >= 0 && bits < 1 << price.size(); }
        boolean in(int v, int from, int to) { return v >= from && v <= to; }
        boolean isUnlike(int ab) { return ab >= 0 && isDoor(ab / 100) && isDoor(ab % 100) && ab / 100 != ab % 100; }
        View whole() { return new View((1 << price.size()) - 1, old, -1, -1); }

        int door(int p, int y) {
            if (!in(p, 0, 99) || !in(y, 0, 9)) return -1;
            if (price.size() == 14) return -3;
            price.add(p);
            year.add(y);
            return price.size() - 1;
        }

        int join(int ab) {
            if (!isUnlike(ab)) return -1;
            if (join.size() == 40) return -3;
            join.add(new int[] {ab / 100, ab % 100});
            return join.size() - 1;
        }

        int wall(int ab, int cost) {
            if (!isUnlike(ab) || !in(cost, 0, 99)) return -1;
            if (wall.size() == 10) return -3;
            wall.add(new int[] {ab / 100, ab % 100, cost});
            return wall.size() - 1;
        }

        int joins(int s, int i, int n) {
            if (!in(s, 0, 5) || !in(n, 1, 30)) return -1;
            if (shelf[s] == null) return 0;
            if (!(shelf[s] instanceof byte[] row)) return -12;
            int came = 0;
            for (long at = i; i >= 0 && came < n && at + 1 < row.length; at += 2) {
                int a = row[(int) at], b = row[(int) at + 1];
                if (!isDoor(a) || !isDoor(b) || a == b || join(100 * a + b) < 0) break;
                came++;
            }
            return came;
        }

        int old(int bits) {
            if (!isTown(bits)) return -1;
            int was = old;
            old = bits;
            return was;
        }

        int near(int v) {
            if (!in(v, 0, 9)) return -1;
            int was = near;
            near = v;
            return was;
        }

        int mend(int number, int what, int v) {
            boolean good = what == 0 && isDoor(number) && in(v, 0, 99) || what == 1 && isDoor(number) && in(v, 0, 9)
                || what == 2 && in(number, 0, wall.size() - 1) && in(v, 0, 99);
            if (!good) return -1;
            int was = set(number, what, v);
            if (was == v) return was;
            undo.add(new int[] {number, what, was, v});
            redo.clear();
            if (undo.size() > 40) undo.remove(0);
            return was;
        }

        int set(int number, int what, int v) {
            if (what == 0) return price.set(number, v);
            if (what == 1) return year.set(number, v);
            int was = wall.get(number)[2];
            wall.get(number)[2] = v;
            return was;
        }

        int undo() {
            if (undo.isEmpty()) return -5;
            int[] last = undo.remove(undo.size() - 1);
            set(last[0], last[1], last[2]);
            redo.add(last);
            return undo.size();
        }

        int redo() {
            if (redo.isEmpty()) return -5;
            int[] last = redo.remove(redo.size() - 1);
            set(last[0], last[1], last[3]);
            undo.add(last);
            return redo.size();
        }

        int of(int number, int what) {
            if (in(what, 0, 3) && isDoor(number)) {
                return what == 0 ? price.get(number) : what == 1 ? year.get(number)
                    : what == 2 ? joinsAt(number, -1) : reach(number, whole());
            }
            if (what == 10 && in(number, 0, join.size() - 1)) {
                return 100 * join.get(number)[0] + join.get(number)[1];
            }
            if (in(what, 20, 21) && in(number, 0, wall.size() - 1)) {
                int[] w = wall.get(number);
                return what == 20 ? 100 * w[0] + w[1] : w[2];
            }
            return -1;
        }

        int joinsAt(int door, int broken) {
            int many = 0;
            for (int[] j : ways(broken)) {
                if (j[0] == door || j[1] == door) many++;
            }
            return many;
        }

        List<int[]> ways(int broken) {
            List<int[]> all = new ArrayList<>(join);
            if (broken >= 0) all.add(wall.get(broken));
            return all;
        }

        int feed(int letter) {
            if (!in(letter, 0, 255)) return -1;
            if (tape.length() == 120) return -3;
            tape += (char) letter;
            return tape.length();
        }

        int law() {
            int fault = Grammar.faultOf(tape);
            if (fault < 0) law = tape;
            tape = "";
            return fault < 0 ? 1 : -100 - fault;
        }

        int reach(int door, View v) {
            if (law == null) return 3;
            int o = (v.old >> door) & 1;
            int[] names = {door, price.get(door), year.get(door), joinsAt(door, v.broken), o};
            return Math.max(0, Math.min(20, Grammar.valueOf(law, names)));
        }

        int[][] away(View v) {
            int n = price.size();
            int[][] far = new int[n][n];
            for (int[] line : far) Arrays.fill(line, 99);
            for (int d = 0; d < n; d++) far[d][d] = 0;
            for (int round = 0; round < n; round++) {
                for (int[] j : ways(v.broken)) {
                    if ((v.there >> j[0] & 1) == 0 || (v.there >> j[1] & 1) == 0) continue;
                    for (int from = 0; from < n; from++) {
                        far[from][j[0]] = Math.min(far[from][j[0]], far[from][j[1]] + 1);
                        far[from][j[1]] = Math.min(far[from][j[1]], far[from][j[0]] + 1);
                    }
                }
            }
            for (int[] line : far) {
                for (int d = 0; d < n; d++) line[d] = Math.min(99, line[d]);
            }
            return far;
        }

        int far(int ab) {
            if (ab < 0 || !isDoor(ab / 100) || !isDoor(ab % 100)) return -1;
            return away(whole())[ab / 100][ab % 100];
        }

        int[] reaches(View v) {
            int[] all = new int[price.size()];
            for (int d = 0; d < all.length; d++) all[d] = reach(d, v);
            return all;
        }

        int judged(int bits, View v, int[][] far, int[] reach) {
            for (int d = 0; d < price.size(); d++) {
                if ((v.there >> d & 1) != 0 && within(d, bits, far, reach).isEmpty()) return d;
            }
            for (int a = 0; a < price.size(); a++) {
                for (int b = a + 1; b < price.size(); b++) {
                    if ((bits >> a & 1) != 0 && (bits >> b & 1) != 0 && far[a][b] < near) return 100 + 16 * a + b;
                }
            }
            return -2;
        }

        List<Integer> within(int door, int bits, int[][] far, int[] reach) {
            List<Integer> wells = new ArrayList<>();
            for (int w = 0; w < price.size(); w++) {
                if ((bits >> w & 1) != 0 && far[door][w] <= reach[door]) wells.add(w);
            }
            return wells;
        }

        int judge(int bits) {
            return isTown(bits) ? judged(bits, whole(), away(whole()), reaches(whole())) : -1;
        }

        List<Integer> allThatMayBe(View v) {
            List<Integer> all = new ArrayList<>();
            int[][] far = away(v);
            int[] reach = reaches(v);
            for (int bits = 0; bits < 1 << price.size(); bits++) {
                boolean may = true;
                for (int d = 0; d < price.size() && may; d++) {
                    boolean well = (bits >> d & 1) != 0, there = (v.there >> d & 1) != 0;
                    boolean oldOne = there && (v.old >> d & 1) != 0;
                    if (oldOne && !well) may = false;
                    if (well && !oldOne && (!there || price.get(d) == 0 || d == v.barred)) may = false;
                }
                if (may && judged(bits, v, far, reach) == -2) all.add(bits);
            }
            return all;
        }

        int best(int what) {
            if (!in(what, 0, 2)) return -1;
            int found = -2, least = 0;
            for (int bits : allThatMayBe(whole())) {
                int weigh = what == 0 ? Integer.bitCount(bits) : what == 1 ? -Integer.bitCount(bits) : 0;
                for (int d = 0; what == 2 && d < price.size(); d++) {
                    if ((bits >> d & 1) != 0 && (old >> d & 1) == 0) weigh += price.get(d);
                }
                if (found < 0 || weigh < least) {
                    found = bits;
                    least = weigh;
                }
            }
            return found;
        }

        int all(int what) {
            if (!in(what, 0, 2)) return -1;
            List<Integer> all = allThatMayBe(whole());
            if (what == 0) return all.size();
            if (all.isEmpty()) return -2;
            int doors = 0;
            for (int d = 0; d < price.size(); d++) {
                int with = 0;
                for (int bits : all) with += bits >> d & 1;
                if (with == (what == 1 ? all.size() : 0)) doors |= 1 << d;
            }
            return doors;
        }

        int even() {
            for (int bits : allThatMayBe(whole())) {
                boolean one = true;
                for (int d = 0; d < price.size(); d++) {
                    one &= within(d, bits, away(whole()), reaches(whole())).size() == 1;
                }
                if (one) return bits;
            }
            return -2;
        }

        boolean isClear(int door, int bits, int[][] far) {
            for (int w = 0; w < price.size(); w++) {
                if ((bits >> w & 1) != 0 && far[door][w] < near) return false;
            }
            return true;
        }

        int greedy(int what) {
            if (!in(what, 0, 1)) return -1;
            int[][] far = away(whole());
            int bits = old, stuck = -2;
            for (int d = 0; d < price.size(); d++) {
                if (!within(d, bits, far, reaches(whole())).isEmpty()) continue;
                if (price.get(d) != 0 && isClear(d, bits, far)) bits |= 1 << d;
                else if (stuck < 0) stuck = d;
            }
            return what == 0 ? bits : stuck;
        }

        int turn(int p, int what) {
            if (!in(p, 0, 99) || !in(what, 0, 1)) return -1;
            int[][] far = away(whole());
            int bits = old, dug = 0, before;
            do {
                before = dug;
                for (int d = 0; d < price.size(); d++) {
                    if (price.get(d) == 0 || price.get(d) > p || !isClear(d, bits, far)) continue;
                    if (!within(d, bits, far, reaches(whole())).isEmpty()) continue;
                    bits |= 1 << d;
                    dug++;
                }
            } while (dug != before);
            return what == 0 ? dug : bits;
        }

        int dry(int bits, int door, int what) {
            if (!isTown(bits) || !isDoor(door) || (bits >> door & 1) == 0 || !in(what, 0, 1)) return -1;
            if (!allThatMayBe(whole()).contains(bits)) return -5;
            int found = -2, least = 99;
            for (int other : allThatMayBe(new View(whole().there, old & ~(1 << door), -1, door))) {
                int unlike = 0;
                for (int d = 0; d < price.size(); d++) {
                    if (d != door && (bits >> d & 1) != (other >> d & 1)) unlike++;
                }
                if (unlike < least) {
                    least = unlike;
                    found = other;
                }
            }
            return found < 0 ? -2 : what == 0 ? found : least;
        }

        int grow() {
            if (price.size() > 9) return -5;
            TreeSet<Integer> last = new TreeSet<>(List.of(0));
            for (int y = 0; y <= 9; y++) {
                int there = 0;
                for (int d = 0; d < price.size(); d++) there |= year.get(d) <= y ? 1 << d : 0;
                TreeSet<Integer> now = new TreeSet<>();
                for (int bits : allThatMayBe(new View(there, old, -1, -1))) {
                    for (int had : last) {
                        if ((had & ~bits) == 0) now.add(bits);
                    }
                }
                last = now;
            }
            int found = -2;
            for (int bits : last) {
                if (found < 0 || Integer.bitCount(bits) < Integer.bitCount(found)) found = bits;
            }
            return found;
        }

        int breaks(int what) {
            if (!in(what, 0, 1)) return -1;
            int found = -2;
            long least = Long.MAX_VALUE;
            for (int w = 0; w < wall.size(); w++) {
                int fewest = 99;
                for (int bits : allThatMayBe(new View(whole().there, old, w, -1))) {
                    fewest = Math.min(fewest, Integer.bitCount(bits));
                }
                long rank = 10000L * fewest + 100L * 0 + wall.get(w)[2];
                if (fewest < 99 && rank < least) {
                    least = rank;
                    found = w;
                }
            }
            return found < 0 || what == 0 ? found : (int) (least / 10000);
        }

        int goes(int bits, int door) {
            if (!isTown(bits) || !isDoor(door)) return -1;
            int[] far = away(whole())[door];
            for (int way = 0; way < 99; way++) {
                for (int w = 0; w < price.size(); w++) {
                    if ((bits >> w & 1) != 0 && far[w] == way) return w;
                }
            }
            return -2;
        }

        int worth(int bits, int door) {
            if (!isTown(bits) || !isDoor(door) || (bits >> door & 1) == 0) return -1;
            int come = 0;
            for (int d = 0; d < price.size(); d++) come += goes(bits, d) == door ? 1 : 0;
            return come;
        }

        int steps(int bits, int what) {
            if (!isTown(bits) || !in(what, 0, 1)) return -1;
            int sum = 0, greatest = 0;
            for (int d = 0; d < price.size(); d++) {
                int w = goes(bits, d);
                int way = w < 0 ? 99 : far(100 * d + w);
                if (w >= 0) sum += way;
                if (way > greatest) greatest = way;
            }
            return what == 0 ? sum : greatest;
        }

        int missed(int bits) {
            if (!isTown(bits)) return -1;
            if (judge(bits) != -2) return -5;
            int spare = 0;
            for (int w = 0; w < price.size(); w++) {
                if ((bits >> w & 1) != 0 && judge(bits - (1 << w)) == -2) spare += 1 << w;
            }
            return spare;
        }

        int stood(int s, int bits) {
            if (!in(s, 0, 5) || !isTown(bits)) return -1;
            if (shelf[s] == null) return -11;
            if (!(shelf[s] instanceof byte[] row)) return -12;
            if (row.length < Integer.bitCount(bits)) return -13;
            int doors = 0;
            for (int d = 0; d < price.size(); d++) {
                List<Integer> told = new ArrayList<>(), is = new ArrayList<>();
                for (int w = 0; w < price.size(); w++) {
                    if ((bits >> w & 1) != 0) {
                        told.add((int) row[told.size()]);
                        is.add(far(100 * d + w));
                    }
                }
                if (told.equals(is)) doors |= 1 << d;
            }
            return doors;
        }

        int body(int kind) {
            if (!in(kind, 0, 7)) return -1;
            if (kinds.size() == 50) return -3;
            int n = kinds.size();
            Laying[] made = {new Laying(), new Greedy(), new Even(), new Old(), new Line(), new Tree(), new Told(),
                new Shut()};
            made[kind].n = n;
            made[kind].kind = kind;
            made[kind].trace = trace;
            kinds.add(made[kind]);
            return n;
        }

        int act(int b, int act, int x) {
            trace.clear();
            if (!in(b, 0, kinds.size() - 1) || !in(act, 0, 3)) return 0;
            Laying one = kinds.get(b);
            return act == 0 ? one.digs(x) : act == 1 ? one.reaches(x) : act == 2 ? one.nears(x) : one.tells(x);
        }

        int trace(int i) {
            return in(i, 0, Math.min(24, trace.size()) - 1) ? trace.get(i) : -1;
        }

        int keep(int s, int b) {
            if (!in(s, 0, 5) || !in(b, -1, kinds.size() - 1)) return -1;
            shelf[s] = b < 0 ? null : kinds.get(b);
            return 1;
        }

        int row(int s, int sort, int n) {
            if (!in(s, 0, 5) || !in(sort, 0, 4) || n > 60) return -1;
            if (n < 0) return -14;
            shelf[s] = sort == 0 ? new byte[n] : sort == 1 ? new short[n] : sort == 2 ? new int[n]
                : sort == 3 ? new long[n] : (Object) new boolean[n];
            return 1;
        }

        int refusal(int s, int i) {
            if (!in(s, 0, 5)) return -1;
            if (shelf[s] == null) return -11;
            if (shelf[s] instanceof Laying) return -12;
            return in(i, 0, java.lang.reflect.Array.getLength(shelf[s]) - 1) ? 1 : -13;
        }

        int put(int s, int i, long v) {
            int refusal = refusal(s, i);
            if (refusal < 0) return refusal;
            if (shelf[s] instanceof byte[] r) r[i] = (byte) v;
            if (shelf[s] instanceof short[] r) r[i] = (short) v;
            if (shelf[s] instanceof int[] r) r[i] = (int) v;
            if (shelf[s] instanceof long[] r) r[i] = v;
            if (shelf[s] instanceof boolean[] r) r[i] = v != 0;
            return 1;
        }

        long element(int s, int i) {
            if (refusal(s, i) < 0) return Long.MIN_VALUE;
            if (shelf[s] instanceof boolean[] r) return r[i] ? 1 : 0;
            return java.lang.reflect.Array.getLong(shelf[s], i);
        }

        int shift(int s, int i, int t, int j, int n) {
            if (!in(s, 0, 5) || !in(t, 0, 5)) return -1;
            if (shelf[s] == null || shelf[t] == null) return -11;
            if (shelf[s] instanceof Laying || shelf[t] instanceof Laying) return -12;
            if (shelf[s].getClass() != shelf[t].getClass()) return -12;
            try {
                System.arraycopy(shelf[s], i, shelf[t], j, n);
            } catch (IndexOutOfBoundsException e) {
                return -13;
            }
            return n;
        }

        int taken(int s, int k) {
            if (!in(s, 0, 5) || !in(k, 0, 7)) return -1;
            if (shelf[s] == null) return -11;
            Class<?>[] classes = {Laying.class, Greedy.class, Even.class, Old.class, Line.class, Tree.class,
                Told.class, Shut.class};
            return classes[k].isInstance(shelf[s]) ? ((Laying) shelf[s]).kind : -12;
        }

        int count(int what) {
            int[] all = {price.size(), join.size(), wall.size(), tape.length(), undo.size(), kinds.size(),
                trace.size()};
            return in(what, 0, 6) ? all[what] : -1;
        }
    }

    private static class Laying {
        int n;
        int kind;
        List<Integer> trace;
        int digs(int x) { trace.add(1); return x + n; }
        int reaches(int x) { trace.add(10); return digs(x) * 2; }
        int nears(int x) { trace.add(11); return x ^ n; }
        int tells(int x) { trace.add(2); return reaches(x) - nears(1); }
    }

    private static class Greedy extends Laying {
        @Override int digs(int x) { trace.add(20); return super.digs(x) + 3; }
    }

    private static class Even extends Laying {
        @Override int reaches(int x) { trace.add(30); return -super.reaches(x); }
    }

    private static final class Old extends Even {
        @Override int nears(int x) { trace.add(40); return super.nears(x) * 3; }
        @Override int reaches(int x) { trace.add(41); return super.reaches(x + 1); }
    }

    private static class Line extends Greedy {
        @Override int tells(int x) { trace.add(50); return super.tells(x) ^ 5; }
    }

    private static final class Tree extends Line {
        @Override int nears(int x) { trace.add(60); return super.nears(x) - digs(2); }
        @Override int tells(int x) { trace.add(61); return super.tells(x) + 1; }
    }

    private static class Told extends Laying {
        @Override int digs(int x) { trace.add(70); return super.digs(x) * 2; }
    }

    private static final class Shut extends Told {
        @Override int reaches(int x) { trace.add(80); return super.reaches(x) + nears(2); }
        @Override int digs(int x) { trace.add(81); return super.digs(x) - 1; }
    }
}
