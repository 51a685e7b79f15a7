import java.util.function.IntFunction;
import java.util.function.IntToLongFunction;

/**
 * What the boundary tests share: each holds sentences of DOC.md that name a boundary case, by themselves and in the
 * document's order: the last value that is taken and the first that is refused on either side, the empty and the full
 * case, the int that wraps. What refused calls change (nothing), and which of several refusals is answered, is held by
 * RefusalTest.
 */
abstract class Boundary {
    static final int LEAST = Integer.MIN_VALUE, GREATEST = Integer.MAX_VALUE;
    static final int BAD = -1, NOT = -2, FULL = -3, STATE = -5;
    private static int wrong = 0;
    private static int sentences = 0;
    private static int row = 0;
    private static String sentence = "";

    static void end(String what) {
        System.out.println(wrong == 0 ? what + ": " + sentences + " sentences hold"
            : what + ": " + wrong + " rows are not as due");
        if (wrong != 0) {
            System.exit(1);
        }
    }

    static void sentence(String words) {
        sentence = words;
        sentences++;
        row = 0;
    }

    static void due(long got, long want) {
        row++;
        if (got != want) {
            wrong++;
            System.out.println("\"" + sentence + "\", row " + row + ": answered " + got + ", due is " + want);
        }
    }

    static void must(boolean holds, String what) {
        row++;
        if (!holds) {
            wrong++;
            System.out.println("\"" + sentence + "\", row " + row + ": " + what);
        }
    }

    /** Each number from..to is taken, and none beside them: not the next, none that is like them in its lowest bits. */
    static void takes(String what, int from, int to, IntToLongFunction call) {
        sentence(what + ": " + from + " .. " + to);
        for (int v = from; v <= to; v++) {
            must(call.applyAsLong(v) != BAD, v + " is refused");
        }
        for (int v : new int[] {from - 1, from - 2, to + 1, to + 2, from + 32, to + 32, to + 256, from - 256,
            from + 65536, 1 << 30, LEAST, LEAST + from, LEAST + to, GREATEST, GREATEST - 1}) {
            if (v < from || v > to) {
                due(call.applyAsLong(v), BAD);
            }
        }
    }

    /** All bits of the doors are taken, none beyond them and no number below 0. */
    static void takesBits(String what, IntFunction<ThreeDoors> town, BitsCall call) {
        sentence(what + ": bits of DOORS that there are");
        for (int doors : new int[] {0, 1, 2, 9, 13, 14}) {
            int all = (1 << doors) - 1;
            must(call.of(town.apply(doors), all) != BAD, "all doors of " + doors + " are refused");
            for (int bad : new int[] {all + 1, all + 1 | all, 1 << 20, -1, -1 << doors, 1 << 30, LEAST, LEAST | all,
                GREATEST}) {
                due(call.of(town.apply(doors), bad), BAD);
            }
        }
    }

    interface BitsCall {
        long of(ThreeDoors x, int bits);
    }

    // ---- towns

    /** Doors of price 10 and year 0 that nothing joins. */
    static ThreeDoors lone(int doors) {
        ThreeDoors x = new ThreeDoors();
        for (int d = 0; d < doors; d++) {
            x.door(10, 0);
        }
        return x;
    }

    /** The same, each joined with the next. */
    static ThreeDoors path(int doors) {
        ThreeDoors x = lone(doors);
        for (int d = 0; d + 1 < doors; d++) {
            x.join(100 * d + d + 1);
        }
        return x;
    }

    /** The same, with a law and with how many doors wells must be from one another. */
    static ThreeDoors path(int doors, String law, int near) {
        ThreeDoors x = path(doors);
        fed(x, law);
        x.near(near);
        return x;
    }

    static ThreeDoors withARow(int doors) {
        ThreeDoors x = lone(doors);
        x.row(0, 0, 60);
        return x;
    }

    static int fed(ThreeDoors x, String text) {
        for (int k = 0; k < text.length(); k++) {
            x.feed(text.charAt(k));
        }
        return x.law();
    }

    static String times(String text, int many) {
        StringBuilder all = new StringBuilder();
        for (int k = 0; k < many; k++) {
            all.append(text);
        }
        return all.toString();
    }

    static void bytes(ThreeDoors x, int shelf, int... values) {
        x.row(shelf, 0, values.length);
        for (int k = 0; k < values.length; k++) {
            x.put(shelf, k, values[k]);
        }
    }
}
