/**
 * Three doors from a well: a town of doors, a law that says how far a well may be from each of them, and the layings
 * of wells by which the law is kept. What each call answers is told in DOC.md, promise by promise.
 */
public final class ThreeDoors {
    public static final int BAD = -1, NOT = -2, FULL = -3, STATE = -5, VOID = -2000000000;

    private static final int NOTHING_THERE = -11, OTHER_KIND = -12, NO_SUCH_PLACE = -13, SIZE_BELOW_ZERO = -14;
    private static final int MOST_DOORS = 14, MOST_JOINS = 40, MOST_WALLS = 10, MOST_FED = 120, MOST_FROM_ROW = 30;
    private static final int MOST_CHANGES = 40, MOST_BODIES = 50, MOST_TRACED = 24, MOST_ELEMENTS = 60;
    private static final int SHELVES = 6, SORTS = 5, KINDS = 8, ACTS = 4;
    private static final int DEAREST = 99, LAST_YEAR = 9, WIDEST_NEAR = 9, MOST_THAT_GROW = 9;
    private static final int NO_WAY = 99, FARTHEST_REACH = 20, NO_WALL = -1;
    private static final int PRICE = 0, YEAR = 1, COST = 2;
    private static final int FEWEST = 0, MOST = 1, CHEAPEST = 2, LIKEST = 3;
    private static final int EMPTY = 0, HOLDS_BODY = 1, HOLDS_ROW = 2;
    private static final int BYTES = 0, SHORTS = 1, INTS = 2, LONGS = 3;

    private final Town town = new Town();
    private final Law rule = new Law();
    private final Plan plan = new Plan();
    private final Changes changes = new Changes();
    private final Acts acts = new Acts();
    private final Shelf[] shelves = new Shelf[SHELVES];
    private final boolean[] grown = new boolean[1 << MOST_THAT_GROW];

    public ThreeDoors() {
        for (int shelf = 0; shelf < SHELVES; shelf++) {
            shelves[shelf] = new Shelf();
        }
    }

    // ---- the town

    public int door(int price, int year) {
        if (!isWithin(price, DEAREST) || !isWithin(year, LAST_YEAR)) {
            return BAD;
        }
        return town.doors >= MOST_DOORS ? FULL : town.addDoor(price, year);
    }

    public int join(int ab) {
        if (ab < 0 || !town.areUnlike(ab / 100, ab % 100)) {
            return BAD;
        }
        return town.joins >= MOST_JOINS ? FULL : town.addJoin(ab);
    }

    public int joins(int shelf, int i, int n) {
        if (!isShelf(shelf) || n < 1 || n > MOST_FROM_ROW) {
            return BAD;
        }
        Shelf from = shelves[shelf];
        if (from.holds == EMPTY) {
            return 0;
        }
        if (!from.isRowOf(BYTES)) {
            return OTHER_KIND;
        }
        return i < 0 ? 0 : joinsCome(from, i, n);
    }

    public int wall(int ab, int cost) {
        if (ab < 0 || !town.areUnlike(ab / 100, ab % 100) || !isWithin(cost, DEAREST)) {
            return BAD;
        }
        return town.walls >= MOST_WALLS ? FULL : town.addWall(ab, cost);
    }

    public int old(int bits) {
        if (!town.areDoors(bits)) {
            return BAD;
        }
        int was = town.oldWells;
        town.oldWells = bits;
        return was;
    }

    public int near(int v) {
        if (!isWithin(v, WIDEST_NEAR)) {
            return BAD;
        }
        int was = town.apart;
        town.apart = v;
        return was;
    }

    public int mend(int number, int what, int v) {
        if (!town.canBecome(what, number, v)) {
            return BAD;
        }
        int was = town.become(what, number, v);
        if (was != v) {
            changes.note(what, number, was, v);
        }
        return was;
    }

    public int of(int number, int what) {
        if (what >= 0 && what <= 3) {
            return town.isDoor(number) ? ofDoor(number, what) : BAD;
        }
        if (what == 10) {
            return number >= 0 && number < town.joins ? town.joinEnds[number] : BAD;
        }
        if ((what == 20 || what == 21) && town.isWall(number)) {
            return what == 20 ? town.wallEnds[number] : town.cost[number];
        }
        return BAD;
    }

    public int feed(int letter) {
        if (!isWithin(letter, 255)) {
            return BAD;
        }
        return rule.fed >= MOST_FED ? FULL : rule.takeByte(letter);
    }

    public int law() {
        int fault = rule.enact();
        return fault < 0 ? 1 : -100 - fault;
    }

    public int far(int ab) {
        if (ab < 0 || !town.isDoor(ab / 100) || !town.isDoor(ab % 100)) {
            return BAD;
        }
        settle();
        return plan.away[ab / 100][ab % 100];
    }

    // ---- layings

    public int judge(int bits) {
        if (!town.areDoors(bits)) {
            return BAD;
        }
        settle();
        return plan.judged(bits);
    }

    public int best(int what) {
        if (what != FEWEST && what != MOST && what != CHEAPEST) {
            return BAD;
        }
        settle();
        return plan.least(town, what, 0);
    }

    public int all(int what) {
        if (!isWithin(what, 2)) {
            return BAD;
        }
        settle();
        int many = 0;
        int inAll = plan.there;
        int inSome = 0;
        for (int wells = 0; wells <= plan.there; wells++) {
            if (plan.mayBe(wells)) {
                many++;
                inAll &= wells;
                inSome |= wells;
            }
        }
        if (what == 0) {
            return many;
        }
        if (many == 0) {
            return NOT;
        }
        return what == 1 ? inAll : plan.there & ~inSome;
    }

    public int even() {
        settle();
        for (int wells = 0; wells <= plan.there; wells++) {
            if (plan.mayBe(wells) && plan.isEven(wells)) {
                return wells;
            }
        }
        return NOT;
    }

    public int greedy(int what) {
        if (!isWithin(what, 1)) {
            return BAD;
        }
        settle();
        int wells = town.oldWells;
        int stuck = NOT;
        for (int door = 0; door < town.doors; door++) {
            if (plan.isServed(door, wells)) {
                continue;
            }
            if (town.price[door] > 0 && plan.isClear(door, wells)) {
                wells |= 1 << door;
            } else if (stuck == NOT) {
                stuck = door;
            }
        }
        return what == 0 ? wells : stuck;
    }

    public int dry(int bits, int door, int what) {
        if (!hasWell(bits, door) || !isWithin(what, 1)) {
            return BAD;
        }
        settle();
        if (!plan.mayBe(bits)) {
            return STATE;
        }
        int left = bits & ~(1 << door);
        plan.lay(town, rule, town.everyDoor(), town.oldWells & ~(1 << door), NO_WALL);
        plan.can &= ~(1 << door);
        int wells = plan.least(town, LIKEST, left);
        return wells < 0 || what == 0 ? wells : Integer.bitCount(wells ^ left);
    }

    public int grow() {
        if (town.doors > MOST_THAT_GROW) {
            return STATE;
        }
        int layings = 1 << town.doors;
        for (int wells = 0; wells < layings; wells++) {
            grown[wells] = true;
        }
        for (int year = 0; year <= LAST_YEAR; year++) {
            plan.lay(town, rule, town.builtBy(year), town.oldWells, NO_WALL);
            growLonger(layings);
            for (int wells = 0; wells < layings; wells++) {
                grown[wells] = grown[wells] && plan.mayBe(wells);
            }
        }
        return fewestGrown(layings);
    }

    public int breaks(int what) {
        if (!isWithin(what, 1)) {
            return BAD;
        }
        int found = NOT;
        int fewest = MOST_DOORS + 1;
        for (int wall = 0; wall < town.walls; wall++) {
            plan.lay(town, rule, town.everyDoor(), town.oldWells, wall);
            int wells = plan.least(town, FEWEST, 0);
            if (wells < 0) {
                continue;
            }
            int many = Integer.bitCount(wells);
            if (found < 0 || many < fewest || many == fewest && town.cost[wall] < town.cost[found]) {
                found = wall;
                fewest = many;
            }
        }
        return found < 0 || what == 0 ? found : fewest;
    }

    // ---- by a laying

    public int goes(int bits, int door) {
        if (!town.areDoors(bits) || !town.isDoor(door)) {
            return BAD;
        }
        settle();
        return plan.nearest(bits, door);
    }

    public int worth(int bits, int door) {
        if (!hasWell(bits, door)) {
            return BAD;
        }
        settle();
        int come = 0;
        for (int from = 0; from < town.doors; from++) {
            if (plan.nearest(bits, from) == door) {
                come++;
            }
        }
        return come;
    }

    public int steps(int bits, int what) {
        if (!town.areDoors(bits) || !isWithin(what, 1)) {
            return BAD;
        }
        settle();
        int sum = 0;
        int greatest = 0;
        for (int door = 0; door < town.doors; door++) {
            int well = plan.nearest(bits, door);
            int way = well < 0 ? NO_WAY : plan.away[door][well];
            sum += well < 0 ? 0 : way;
            greatest = Math.max(greatest, way);
        }
        return what == 0 ? sum : greatest;
    }

    public int missed(int bits) {
        if (!town.areDoors(bits)) {
            return BAD;
        }
        settle();
        if (!plan.isLawful(bits)) {
            return STATE;
        }
        int spare = 0;
        for (int door = 0; door < town.doors; door++) {
            int well = bits & 1 << door;
            if (well != 0 && plan.isLawful(bits & ~well)) {
                spare |= well;
            }
        }
        return spare;
    }

    public int stood(int shelf, int bits) {
        if (!isShelf(shelf) || !town.areDoors(bits)) {
            return BAD;
        }
        Shelf told = shelves[shelf];
        if (told.holds == EMPTY) {
            return NOTHING_THERE;
        }
        if (!told.isRowOf(BYTES)) {
            return OTHER_KIND;
        }
        if (told.size < Integer.bitCount(bits)) {
            return NO_SUCH_PLACE;
        }
        settle();
        int doors = 0;
        for (int door = 0; door < town.doors; door++) {
            doors |= isToldFrom(door, bits, told) ? 1 << door : 0;
        }
        return doors;
    }

    public int turn(int price, int what) {
        if (!isWithin(price, DEAREST) || !isWithin(what, 1)) {
            return BAD;
        }
        settle();
        int wells = town.oldWells;
        int dug = 0;
        boolean digs = true;
        for (int round = 0; round <= MOST_DOORS && digs; round++) {
            int before = wells;
            for (int door = 0; door < town.doors; door++) {
                boolean may = town.price[door] > 0 && town.price[door] <= price;
                if (may && !plan.isServed(door, wells) && plan.isClear(door, wells)) {
                    wells |= 1 << door;
                    dug++;
                }
            }
            digs = wells != before;
        }
        return what == 0 ? dug : wells;
    }

    public int undo() {
        return changes.done == 0 ? STATE : changes.takeBack(town);
    }

    public int redo() {
        return changes.done == changes.kept ? STATE : changes.doAgain(town);
    }

    // ---- acts, shelves

    public int body(int kind) {
        if (!isKind(kind)) {
            return BAD;
        }
        return acts.bodies >= MOST_BODIES ? FULL : acts.addBody(kind);
    }

    public int act(int body, int act, int x) {
        return acts.start(body, act, x);
    }

    public int trace(int i) {
        return i >= 0 && i < MOST_TRACED && i < acts.began ? acts.traced[i] : BAD;
    }

    public int keep(int shelf, int body) {
        if (!isShelf(shelf) || body < -1 || body >= acts.bodies) {
            return BAD;
        }
        shelves[shelf].holds = body < 0 ? EMPTY : HOLDS_BODY;
        shelves[shelf].body = body;
        return 1;
    }

    public int row(int shelf, int sort, int n) {
        if (!isShelf(shelf) || sort < 0 || sort >= SORTS || n > MOST_ELEMENTS) {
            return BAD;
        }
        if (n < 0) {
            return SIZE_BELOW_ZERO;
        }
        shelves[shelf].becomeRow(sort, n);
        return 1;
    }

    public int put(int shelf, int i, long v) {
        int refusal = refusalOf(shelf, i);
        if (refusal != 0) {
            return refusal;
        }
        shelves[shelf].elements[i] = shelves[shelf].lowestBits(v);
        return 1;
    }

    public long element(int shelf, int i) {
        return refusalOf(shelf, i) != 0 ? Long.MIN_VALUE : shelves[shelf].elements[i];
    }

    public int shift(int shelf, int i, int other, int j, int n) {
        if (!isShelf(shelf) || !isShelf(other)) {
            return BAD;
        }
        Shelf from = shelves[shelf];
        Shelf to = shelves[other];
        if (from.holds == EMPTY || to.holds == EMPTY) {
            return NOTHING_THERE;
        }
        if (from.holds != HOLDS_ROW || !to.isRowOf(from.sort)) {
            return OTHER_KIND;
        }
        if (!from.hasRun(i, n) || !to.hasRun(j, n)) {
            return NO_SUCH_PLACE;
        }
        System.arraycopy(from.elements, i, to.elements, j, n);
        return n;
    }

    public int taken(int shelf, int k) {
        if (!isShelf(shelf) || !isKind(k)) {
            return BAD;
        }
        Shelf from = shelves[shelf];
        if (from.holds == EMPTY) {
            return NOTHING_THERE;
        }
        if (from.holds != HOLDS_BODY || from.body < 0 || from.body >= acts.bodies) {
            return OTHER_KIND;
        }
        int kind = acts.kinds[from.body];
        return Acts.isUnder(kind, k) ? kind : OTHER_KIND;
    }

    public int count(int what) {
        switch (what) {
            case 0: return town.doors;
            case 1: return town.joins;
            case 2: return town.walls;
            case 3: return rule.fed;
            case 4: return changes.done;
            case 5: return acts.bodies;
            case 6: return acts.began;
            default: return BAD;
        }
    }

    // ---- what the calls share

    private static boolean isWithin(int v, int most) {
        return v >= 0 && v <= most;
    }

    private static boolean isShelf(int shelf) {
        return shelf >= 0 && shelf < SHELVES;
    }

    private static boolean isKind(int kind) {
        return kind >= 0 && kind < KINDS;
    }

    private boolean hasWell(int bits, int door) {
        return town.areDoors(bits) && town.isDoor(door) && (bits >> door & 1) != 0;
    }

    /** Every asking call lays the plan anew, since DRY, GROW and BREAK leave it laid for another town. */
    private void settle() {
        plan.lay(town, rule, town.everyDoor(), town.oldWells, NO_WALL);
    }

    private int ofDoor(int door, int what) {
        switch (what) {
            case 0: return town.price[door];
            case 1: return town.year[door];
            case 2: return town.joinsAt(door, NO_WALL);
            default: return rule.reachOf(town, door, town.oldWells, NO_WALL);
        }
    }

    private int joinsCome(Shelf from, int i, int n) {
        int came = 0;
        // i is held against what is left of the row, not added to: the sum could wrap
        while (came < n && i < from.size - 2 * came - 1 && town.joins < MOST_JOINS) {
            long one = from.elements[i + 2 * came];
            long other = from.elements[i + 2 * came + 1];
            if (!town.areUnlike((int) one, (int) other)) {
                break;
            }
            town.addJoin(100 * (int) one + (int) other);
            came++;
        }
        return came;
    }

    /** To each laying that was so, all those with more wells come. */
    private void growLonger(int layings) {
        for (int well = 1; well < layings; well += well) {
            for (int wells = 0; wells < layings; wells++) {
                if ((wells & well) != 0 && grown[wells ^ well]) {
                    grown[wells] = true;
                }
            }
        }
    }

    private int fewestGrown(int layings) {
        int found = NOT;
        for (int wells = 0; wells < layings; wells++) {
            if (grown[wells] && (found < 0 || Integer.bitCount(wells) < Integer.bitCount(found))) {
                found = wells;
            }
        }
        return found;
    }

    private boolean isToldFrom(int door, int bits, Shelf told) {
        int place = 0;
        for (int well = 0; well < town.doors; well++) {
            if ((bits >> well & 1) == 0) {
                continue;
            }
            if (place >= told.size || told.elements[place] != plan.away[door][well]) {
                return false;
            }
            place++;
        }
        return true;
    }

    /** Why there is no element i of a row on a shelf; 0: there is one. */
    private int refusalOf(int shelf, int i) {
        if (!isShelf(shelf)) {
            return BAD;
        }
        if (shelves[shelf].holds == EMPTY) {
            return NOTHING_THERE;
        }
        if (shelves[shelf].holds != HOLDS_ROW) {
            return OTHER_KIND;
        }
        return i >= 0 && i < shelves[shelf].size ? 0 : NO_SUCH_PLACE;
    }

    /** Doors, joins, walls, old wells, and how far wells must be apart. */
    private static final class Town {
        final int[] price = new int[MOST_DOORS];
        final int[] year = new int[MOST_DOORS];
        final int[] joinEnds = new int[MOST_JOINS];
        final int[] wallEnds = new int[MOST_WALLS];
        final int[] cost = new int[MOST_WALLS];
        int doors;
        int joins;
        int walls;
        int oldWells;
        int apart = 4;

        int addDoor(int itsPrice, int itsYear) {
            price[doors] = itsPrice;
            year[doors] = itsYear;
            return doors++;
        }

        int addJoin(int ab) {
            joinEnds[joins] = ab;
            return joins++;
        }

        int addWall(int ab, int itsCost) {
            wallEnds[walls] = ab;
            cost[walls] = itsCost;
            return walls++;
        }

        boolean isDoor(int number) {
            return number >= 0 && number < doors;
        }

        boolean isWall(int number) {
            return number >= 0 && number < walls;
        }

        boolean areUnlike(int one, int other) {
            return isDoor(one) && isDoor(other) && one != other;
        }

        boolean areDoors(int bits) {
            return (bits & ~everyDoor()) == 0;
        }

        int everyDoor() {
            return (1 << doors) - 1;
        }

        int builtBy(int latest) {
            int bits = 0;
            for (int door = 0; door < doors; door++) {
                bits |= year[door] <= latest ? 1 << door : 0;
            }
            return bits;
        }

        /** The doors at which one may dig: no rock is there. */
        int soil() {
            int bits = 0;
            for (int door = 0; door < doors; door++) {
                bits |= price[door] > 0 ? 1 << door : 0;
            }
            return bits;
        }

        int joinsAt(int door, int wall) {
            int many = isWall(wall) && isEnd(wallEnds[wall], door) ? 1 : 0;
            for (int number = 0; number < joins; number++) {
                many += isEnd(joinEnds[number], door) ? 1 : 0;
            }
            return many;
        }

        private static boolean isEnd(int ab, int door) {
            return ab / 100 == door || ab % 100 == door;
        }

        boolean canBecome(int what, int number, int v) {
            switch (what) {
                case PRICE: return isDoor(number) && isWithin(v, DEAREST);
                case YEAR: return isDoor(number) && isWithin(v, LAST_YEAR);
                case COST: return isWall(number) && isWithin(v, DEAREST);
                default: return false;
            }
        }

        int become(int what, int number, int v) {
            int[] values = what == PRICE ? price : what == YEAR ? year : cost;
            if (number < 0 || number >= values.length) {
                return BAD;
            }
            int was = values[number];
            values[number] = v;
            return was;
        }
    }

    /** The tape, and the text that is the law; it is read anew each time that it is asked. */
    private static final class Law {
        private static final int MOST_OPEN = 6, MOST_DIGITS = 4, WITHOUT_TEXT = 3;
        private static final int EITHER = 0, BOTH = 1, COMPARED = 2, SUM = 3, PRODUCT = 4, OPERAND = 5;

        final byte[] tape = new byte[MOST_FED];
        final byte[] text = new byte[MOST_FED];
        int fed;
        // no text is empty, so that 0 can stand for none
        int length;
        private byte[] read = text;
        private int end;
        private int at;
        private int fault;
        private int d;
        private int p;
        private int y;
        private int j;
        private int o;

        int takeByte(int letter) {
            tape[fed] = (byte) letter;
            fed++;
            return fed;
        }

        /** The fault of the tape, or -1; a faulty one leaves the law as it was. */
        int enact() {
            worked(tape, fed);
            if (fault < 0) {
                System.arraycopy(tape, 0, text, 0, fed);
                length = fed;
            }
            fed = 0;
            return fault;
        }

        int reachOf(Town town, int door, int old, int wall) {
            if (length == 0) {
                return WITHOUT_TEXT;
            }
            d = door;
            p = town.price[door];
            y = town.year[door];
            j = town.joinsAt(door, wall);
            o = old >> door & 1;
            return Math.max(0, Math.min(FARTHEST_REACH, worked(text, length)));
        }

        private int worked(byte[] bytes, int many) {
            read = bytes;
            end = many;
            at = 0;
            fault = -1;
            int answer = 0;
            boolean counted = false;
            boolean more = true;
            for (int line = 0; line <= MOST_FED && more; line++) {
                int first = ranked(EITHER, 0);
                int value = first;
                boolean asks = next() == '?';
                if (asks) {
                    at++;
                    value = ranked(EITHER, 0);
                }
                if (!counted && (!asks || first != 0)) {
                    counted = true;
                    answer = value;
                }
                more = next() == ';';
                at += more ? 1 : 0;
            }
            if (at < end) {
                broken();
            }
            return answer;
        }

        /** The byte that is read next; -1 behind the last one, and behind a fault, so that all reading ends there. */
        private int next() {
            return fault < 0 && at < end && at < read.length ? read[at] & 255 : -1;
        }

        private int broken() {
            fault = fault < 0 ? at : fault;
            return 0;
        }

        private int ranked(int rank, int open) {
            if (rank >= OPERAND) {
                return operand(open);
            }
            int value = ranked(rank + 1, open);
            // a comparison takes just one more, every other sign as many as come
            int most = rank == COMPARED ? 1 : MOST_FED;
            for (int more = 0; more < most && rankOf(next()) == rank; more++) {
                int sign = next();
                at++;
                value = joined(sign, value, ranked(rank + 1, open));
            }
            return value;
        }

        private int operand(int open) {
            int sign = next();
            if (isDigit(sign)) {
                return number();
            }
            if (sign != '(' && sign != '!' && sign != '-') {
                return named(sign);
            }
            if (open >= MOST_OPEN) {
                return broken();
            }
            at++;
            if (sign != '(') {
                int value = operand(open + 1);
                return sign == '-' ? -value : value == 0 ? 1 : 0;
            }
            int value = ranked(EITHER, open + 1);
            if (next() != ')') {
                return broken();
            }
            at++;
            return value;
        }

        private int number() {
            int value = 0;
            for (int digits = 0; digits < MOST_DIGITS && isDigit(next()); digits++) {
                value = 10 * value + next() - '0';
                at++;
            }
            return value;
        }

        private int named(int letter) {
            int value;
            switch (letter) {
                case 'd': value = d; break;
                case 'p': value = p; break;
                case 'y': value = y; break;
                case 'j': value = j; break;
                case 'o': value = o; break;
                default: return broken();
            }
            at++;
            return value;
        }

        private static boolean isDigit(int letter) {
            return letter >= '0' && letter <= '9';
        }

        private static int rankOf(int sign) {
            switch (sign) {
                case '|': return EITHER;
                case '&': return BOTH;
                case '<': case '=': case '>': return COMPARED;
                case '+': case '-': return SUM;
                case '*': case '/': case '%': return PRODUCT;
                default: return -1;
            }
        }

        private static int joined(int sign, int left, int right) {
            switch (sign) {
                case '|': return left != 0 || right != 0 ? 1 : 0;
                case '&': return left != 0 && right != 0 ? 1 : 0;
                case '<': return left < right ? 1 : 0;
                case '=': return left == right ? 1 : 0;
                case '>': return left > right ? 1 : 0;
                case '+': return left + right;
                case '-': return left - right;
                case '*': return left * right;
                case '/': return right == 0 ? 0 : left / right;
                default: return right == 0 ? 0 : left % right;
            }
        }
    }

    /** For the doors that are there: how far they are from one another, and by what wells each is served. */
    private static final class Plan {
        // half of the doors: a laying is looked up by its two halves, since some calls try each laying many times
        private static final int HALF = 7, LOW = (1 << HALF) - 1;

        final int[][] away = new int[MOST_DOORS][MOST_DOORS];
        private final int[] beside = new int[MOST_DOORS];
        private final int[] reach = new int[MOST_DOORS];
        private final int[] serves = new int[MOST_DOORS];
        private final int[] crowds = new int[MOST_DOORS];
        private final int[] servedLow = new int[1 << HALF];
        private final int[] servedHigh = new int[1 << HALF];
        private final int[] crowdedLow = new int[1 << HALF];
        private final int[] crowdedHigh = new int[1 << HALF];
        int there;
        int must;
        int can;

        void lay(Town town, Law rule, int doors, int old, int wall) {
            there = doors;
            must = old & doors;
            can = must | town.soil() & doors;
            for (int door = 0; door < MOST_DOORS; door++) {
                beside[door] = 0;
                reach[door] = isThere(door) ? rule.reachOf(town, door, old, wall) : -1;
            }
            for (int number = 0; number < town.joins; number++) {
                link(town.joinEnds[number]);
            }
            if (town.isWall(wall)) {
                link(town.wallEnds[wall]);
            }
            for (int door = 0; door < MOST_DOORS; door++) {
                walk(door);
            }
            for (int door = 0; door < MOST_DOORS; door++) {
                measure(door, town.apart);
            }
            gather(serves, 0, servedLow);
            gather(serves, HALF, servedHigh);
            gather(crowds, 0, crowdedLow);
            gather(crowds, HALF, crowdedHigh);
        }

        private boolean isThere(int door) {
            return (there >> door & 1) != 0;
        }

        private void link(int ab) {
            int one = ab / 100;
            int other = ab % 100;
            if (isThere(one) && isThere(other)) {
                beside[one] |= 1 << other;
                beside[other] |= 1 << one;
            }
        }

        private void walk(int from) {
            for (int door = 0; door < MOST_DOORS; door++) {
                away[from][door] = NO_WAY;
            }
            int reached = 1 << from;
            int edge = reached;
            for (int way = 0; way < MOST_DOORS && edge != 0; way++) {
                int beyond = 0;
                for (int door = 0; door < MOST_DOORS; door++) {
                    if ((edge >> door & 1) != 0) {
                        away[from][door] = way;
                        beyond |= beside[door];
                    }
                }
                edge = beyond & ~reached;
                reached |= edge;
            }
        }

        /** Which doors a well at this one serves, and at which ones another well would be too near. */
        private void measure(int well, int apart) {
            serves[well] = 0;
            crowds[well] = 0;
            for (int door = 0; door < MOST_DOORS && isThere(well); door++) {
                if (away[door][well] <= reach[door]) {
                    serves[well] |= 1 << door;
                }
                if (door != well && away[door][well] < apart) {
                    crowds[well] |= 1 << door;
                }
            }
        }

        /** For every set of the seven doors from the first on: what they do together. */
        private static void gather(int[] does, int first, int[] together) {
            together[0] = 0;
            for (int door = 0; door < HALF; door++) {
                for (int set = 1 << door; set < 2 << door; set++) {
                    together[set] = together[set ^ 1 << door] | does[first + door];
                }
            }
        }

        private int served(int wells) {
            return servedLow[wells & LOW] | servedHigh[wells >> HALF & LOW];
        }

        private int crowded(int wells) {
            return crowdedLow[wells & LOW] | crowdedHigh[wells >> HALF & LOW];
        }

        boolean isServed(int door, int wells) {
            return (served(wells) >> door & 1) != 0;
        }

        boolean isClear(int door, int wells) {
            return (crowded(wells) >> door & 1) == 0;
        }

        boolean isLawful(int wells) {
            return served(wells) == there && (crowded(wells) & wells) == 0;
        }

        boolean mayBe(int wells) {
            return (wells & must) == must && (wells & ~can) == 0 && isLawful(wells);
        }

        boolean isEven(int wells) {
            int once = 0;
            for (int well = 0; well < MOST_DOORS; well++) {
                if ((wells >> well & 1) != 0) {
                    if ((once & serves[well]) != 0) {
                        return false;
                    }
                    once |= serves[well];
                }
            }
            return once == there;
        }

        int judged(int wells) {
            for (int door = 0; door < MOST_DOORS; door++) {
                if (isThere(door) && !isServed(door, wells)) {
                    return door;
                }
            }
            for (int lesser = 0; lesser < MOST_DOORS; lesser++) {
                int near = (wells >> lesser & 1) != 0 ? crowds[lesser] & wells : 0;
                for (int other = lesser + 1; other < MOST_DOORS; other++) {
                    if ((near >> other & 1) != 0) {
                        return 100 + 16 * lesser + other;
                    }
                }
            }
            return NOT;
        }

        /** Of all that may be the one that weighs least, of like ones the least bits; NOT: none may be. */
        int least(Town town, int what, int told) {
            int found = NOT;
            int lightest = 0;
            for (int wells = 0; wells <= there; wells++) {
                if (!mayBe(wells)) {
                    continue;
                }
                int weight = weight(town, what, wells, told);
                if (found < 0 || weight < lightest) {
                    found = wells;
                    lightest = weight;
                }
            }
            return found;
        }

        private int weight(Town town, int what, int wells, int told) {
            switch (what) {
                case FEWEST: return Integer.bitCount(wells);
                case MOST: return -Integer.bitCount(wells);
                case LIKEST: return Integer.bitCount(wells ^ told);
                default: return priceOf(town, wells & ~must);
            }
        }

        private static int priceOf(Town town, int dug) {
            int sum = 0;
            for (int door = 0; door < town.doors; door++) {
                sum += (dug >> door & 1) != 0 ? town.price[door] : 0;
            }
            return sum;
        }

        int nearest(int wells, int door) {
            int found = NOT;
            int least = NO_WAY;
            for (int well = 0; well < MOST_DOORS; well++) {
                if ((wells >> well & 1) != 0 && away[door][well] < least) {
                    found = well;
                    least = away[door][well];
                }
            }
            return found;
        }
    }

    /** Changes of prices, years and costs: those that may be undone, then those that may be done again. */
    private static final class Changes {
        final int[] what = new int[MOST_CHANGES];
        final int[] number = new int[MOST_CHANGES];
        final int[] before = new int[MOST_CHANGES];
        final int[] after = new int[MOST_CHANGES];
        int done;
        int kept;

        void note(int itsWhat, int itsNumber, int was, int is) {
            if (done >= MOST_CHANGES) {
                forgetFirst();
            }
            what[done] = itsWhat;
            number[done] = itsNumber;
            before[done] = was;
            after[done] = is;
            done++;
            kept = done;
        }

        private void forgetFirst() {
            System.arraycopy(what, 1, what, 0, MOST_CHANGES - 1);
            System.arraycopy(number, 1, number, 0, MOST_CHANGES - 1);
            System.arraycopy(before, 1, before, 0, MOST_CHANGES - 1);
            System.arraycopy(after, 1, after, 0, MOST_CHANGES - 1);
            done = MOST_CHANGES - 1;
        }

        int takeBack(Town town) {
            done--;
            town.become(what[done], number[done], before[done]);
            return done;
        }

        int doAgain(Town town) {
            town.become(what[done], number[done], after[done]);
            done++;
            return kept - done;
        }
    }

    /** Bodies, and what their acts do: each kind has acts of its own, and the others from the kinds above. */
    private static final class Acts {
        private static final int DIGS = 0, REACHES = 1, NEARS = 2, TELLS = 3;
        private static final int DEEPEST = 30;
        private static final int[] ABOVE = {-1, 0, 0, 2, 1, 4, 0, 6};
        // by kind: the numbers of the bodies of digs, reaches, nears, tells; 0: from above
        private static final int[] OWN = {
            1, 10, 11, 2,
            20, 0, 0, 0,
            0, 30, 0, 0,
            0, 41, 40, 0,
            0, 0, 0, 50,
            0, 0, 60, 61,
            70, 0, 0, 0,
            81, 80, 0, 0,
        };

        final int[] kinds = new int[MOST_BODIES];
        final int[] traced = new int[MOST_TRACED];
        int bodies;
        int began;
        private int self;
        private int kindOfSelf;

        int addBody(int kind) {
            kinds[bodies] = kind;
            return bodies++;
        }

        int start(int body, int act, int x) {
            began = 0;
            if (body < 0 || body >= bodies || act < 0 || act >= ACTS) {
                return 0;
            }
            self = body;
            kindOfSelf = kinds[body];
            return run(kindOfSelf, act, x, 0);
        }

        static boolean isUnder(int kind, int other) {
            int at = kind;
            for (int step = 0; step < KINDS && at >= 0 && at != other; step++) {
                at = ABOVE[at];
            }
            return at == other;
        }

        /** The kind from this one on upwards that has a body of the act; -1: none. */
        private static int ownerOf(int kind, int act) {
            int at = kind;
            for (int step = 0; step < KINDS && at >= 0 && OWN[ACTS * at + act] == 0; step++) {
                at = ABOVE[at];
            }
            return at;
        }

        private void note(int number) {
            if (began < MOST_TRACED) {
                traced[began] = number;
            }
            began++;
        }

        private int run(int from, int act, int x, int deep) {
            int owner = ownerOf(from, act);
            if (owner < 0 || deep > DEEPEST) {
                return 0;
            }
            int above = ABOVE[owner];
            int below = deep + 1;
            int number = OWN[ACTS * owner + act];
            note(number);
            switch (number) {
                case 1: return x + self;
                case 2: return run(kindOfSelf, REACHES, x, below) - run(kindOfSelf, NEARS, 1, below);
                case 10: return run(kindOfSelf, DIGS, x, below) * 2;
                case 11: return x ^ self;
                case 20: return run(above, DIGS, x, below) + 3;
                case 30: return -run(above, REACHES, x, below);
                case 40: return run(above, NEARS, x, below) * 3;
                case 41: return run(above, REACHES, x + 1, below);
                case 50: return run(above, TELLS, x, below) ^ 5;
                case 60: return run(above, NEARS, x, below) - run(kindOfSelf, DIGS, 2, below);
                case 61: return run(above, TELLS, x, below) + 1;
                case 70: return run(above, DIGS, x, below) * 2;
                case 80: return run(above, REACHES, x, below) + run(kindOfSelf, NEARS, 2, below);
                default: return run(above, DIGS, x, below) - 1;
            }
        }
    }

    /** What one shelf holds; the elements of a row of any sort are kept as longs. */
    private static final class Shelf {
        int holds;
        int body;
        int sort;
        int size;
        final long[] elements = new long[MOST_ELEMENTS];

        boolean isRowOf(int itsSort) {
            return holds == HOLDS_ROW && sort == itsSort;
        }

        void becomeRow(int itsSort, int itsSize) {
            holds = HOLDS_ROW;
            sort = itsSort;
            size = itsSize;
            for (int i = 0; i < MOST_ELEMENTS; i++) {
                elements[i] = 0;
            }
        }

        /** Whether n elements from i on are there; i + n is not worked out, since it could wrap. */
        boolean hasRun(int i, int n) {
            return n >= 0 && i >= 0 && n <= size && i <= size - n;
        }

        long lowestBits(long v) {
            switch (sort) {
                case BYTES: return (byte) v;
                case SHORTS: return (short) v;
                case INTS: return (int) v;
                case LONGS: return v;
                default: return v != 0 ? 1 : 0;
            }
        }
    }
}
