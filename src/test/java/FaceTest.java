import java.lang.reflect.Constructor;
import java.lang.reflect.Field;
import java.lang.reflect.Method;
import java.lang.reflect.Modifier;
import java.util.Arrays;
import java.util.Random;
import java.util.Set;
import java.util.TreeSet;

/** The public face is the document's, no more and no less, and no call of it throws, whatever it is given. */
public final class FaceTest {
    private static final String[] FACE = {
        "int door(int,int)", "int join(int)", "int joins(int,int,int)", "int wall(int,int)", "int old(int)",
        "int near(int)", "int mend(int,int,int)", "int of(int,int)", "int feed(int)", "int law()", "int far(int)",
        "int judge(int)", "int best(int)", "int all(int)", "int even()", "int greedy(int)", "int dry(int,int,int)",
        "int grow()", "int breaks(int)", "int goes(int,int)", "int worth(int,int)", "int steps(int,int)",
        "int missed(int)", "int stood(int,int)", "int turn(int,int)", "int undo()", "int redo()", "int body(int)",
        "int act(int,int,int)", "int trace(int)", "int keep(int,int)", "int row(int,int,int)",
        "int put(int,int,long)", "long element(int,int)", "int shift(int,int,int,int,int)", "int taken(int,int)",
        "int count(int)"};
    private static int wrong = 0;

    public static void main(String[] args) throws Exception {
        members();
        constants();
        anyArguments();
        System.out.println(wrong == 0 ? "face: as due" : "face: " + wrong + " faults");
        if (wrong != 0) {
            System.exit(1);
        }
    }

    private static void must(boolean holds, String what) {
        if (!holds) {
            wrong++;
            System.out.println("face: " + what);
        }
    }

    private static void members() {
        Set<String> found = new TreeSet<>();
        Set<String> publicNames = new TreeSet<>();
        for (Method m : ThreeDoors.class.getDeclaredMethods()) {
            if (Modifier.isPublic(m.getModifiers())) {
                StringBuilder types = new StringBuilder();
                for (Class<?> type : m.getParameterTypes()) {
                    types.append(types.length() > 0 ? "," : "").append(type);
                }
                found.add(m.getReturnType() + " " + m.getName() + "(" + types + ")");
                publicNames.add(m.getName());
            }
        }
        must(found.equals(new TreeSet<>(Arrays.asList(FACE))), "the public methods are " + found);
        for (Method m : ThreeDoors.class.getDeclaredMethods()) {
            boolean open = Modifier.isPublic(m.getModifiers());
            must(open || Modifier.isPrivate(m.getModifiers()), m + " is neither public nor private");
            must(open || !publicNames.contains(m.getName()), m + " bears the name of a public one");
        }
        for (Constructor<?> c : ThreeDoors.class.getDeclaredConstructors()) {
            must(Modifier.isPublic(c.getModifiers()) && c.getParameterCount() == 0, c + " is not of the face");
        }
        int mods = ThreeDoors.class.getModifiers();
        must(Modifier.isPublic(mods) && Modifier.isFinal(mods), "the class is public and final");
        for (Class<?> inside : ThreeDoors.class.getDeclaredClasses()) {
            int its = inside.getModifiers();
            must(Modifier.isStatic(its) && !Modifier.isPublic(its) && !Modifier.isProtected(its), inside + " is open");
        }
    }

    private static void constants() throws Exception {
        String[] names = {"BAD", "NOT", "FULL", "STATE", "VOID"};
        int[] values = {-1, -2, -3, -5, -2000000000};
        int open = 0;
        for (Field f : ThreeDoors.class.getDeclaredFields()) {
            open += Modifier.isPrivate(f.getModifiers()) ? 0 : 1;
            must(!Modifier.isStatic(f.getModifiers()) || Modifier.isFinal(f.getModifiers()), f + " is not final");
        }
        must(open == names.length, "just the constants of the face are not private");
        for (int k = 0; k < names.length; k++) {
            Field f = ThreeDoors.class.getField(names[k]);
            int mods = f.getModifiers();
            must(f.getType() == int.class && Modifier.isStatic(mods) && Modifier.isFinal(mods), f + " is a constant");
            must(f.getInt(null) == values[k], names[k] + " is " + f.getInt(null));
        }
    }

    /** Towns at their largest, and each method with numbers from anywhere. */
    private static void anyArguments() throws Exception {
        Method[] methods = Arrays.stream(ThreeDoors.class.getDeclaredMethods())
            .filter(m -> Modifier.isPublic(m.getModifiers()))
            .sorted((a, b) -> a.toString().compareTo(b.toString())).toArray(Method[]::new);
        int[] edges = {0, 1, 2, 3, 4, 5, 6, 7, 10, 13, 14, 20, 21, 31, 32, 33, 39, 40, 59, 60, 61, 99, 100, 119, 120,
            255, 256, 511, 512, 1313, 1413, 8191, 16383, 16384, -1, -2, -31, -32, -100, 65536, Integer.MAX_VALUE,
            Integer.MAX_VALUE - 1, Integer.MIN_VALUE, Integer.MIN_VALUE + 1, 1 << 30, -(1 << 30)};
        String letters = "dpyjo0123456789+-*/%<>=|&!()?;";
        Random random = new Random(5);
        for (int object = 0; object < 150; object++) {
            ThreeDoors x = new ThreeDoors();
            int doors = random.nextInt(15);
            for (int d = 0; d < doors; d++) {
                x.door(random.nextInt(100), random.nextInt(10));
                x.join(100 * random.nextInt(d + 1) + d);
                x.wall(100 * random.nextInt(d + 1) + d, d);
                x.body(d % 8);
                x.row(d % 6, d % 5, random.nextInt(61));
            }
            for (int call = 0; call < 440; call++) {
                Method m = methods[random.nextInt(methods.length)];
                if (m.getName().equals("feed") && random.nextInt(4) != 0) {
                    x.feed(letters.charAt(random.nextInt(letters.length())));
                    continue;
                }
                Object[] told = new Object[m.getParameterCount()];
                for (int k = 0; k < told.length; k++) {
                    int edge = random.nextInt(6) == 0 ? random.nextInt() : edges[random.nextInt(edges.length)];
                    told[k] = m.getParameterTypes()[k] == long.class ? (Object) (long) edge : (Object) edge;
                }
                try {
                    m.invoke(x, told);
                } catch (java.lang.reflect.InvocationTargetException e) {
                    must(false, m.getName() + Arrays.toString(told) + " threw " + e.getCause());
                }
            }
        }
    }
}
