import java.lang.reflect.Method;
import java.nio.file.Files;
import java.nio.file.Path;
import java.util.regex.Matcher;
import java.util.regex.Pattern;

/** README.md's examples, read from the page itself: each call answers the number that stands behind its "//". */
public final class ReadmeTest {
    private static final Pattern MADE = Pattern.compile("ThreeDoors \\w+ = new ThreeDoors\\(\\);");
    private static final Pattern FED = Pattern.compile("for \\(char letter : \"(.+)\"\\.toCharArray.*");
    private static final Pattern ASKED = Pattern.compile("\\w+\\.(\\w+)\\((.*)\\); +// (-?\\d+)(: .*)?");
    private static ThreeDoors town = null;
    private static int answers = 0;
    private static int wrong = 0;

    public static void main(String[] args) throws Exception {
        boolean inExample = false;
        for (String line : Files.readAllLines(Path.of("README.md"))) {
            if (line.startsWith("```")) {
                inExample = line.equals("```java");
            } else if (inExample && !line.isBlank()) {
                example(line);
            }
        }
        if (answers == 0) {
            fault("no answer of an example was found");
        }
        System.out.println(wrong == 0 ? "readme: " + answers + " answers are as due" : "readme: " + wrong + " faults");
        if (wrong != 0) {
            System.exit(1);
        }
    }

    private static void fault(String what) {
        wrong++;
        System.out.println("readme: " + what);
    }

    private static void example(String line) throws Exception {
        Matcher fed = FED.matcher(line);
        Matcher asked = ASKED.matcher(line);
        if (MADE.matcher(line).matches()) {
            town = new ThreeDoors();
        } else if (fed.matches()) {
            for (char letter : fed.group(1).toCharArray()) {
                town.feed(letter);
            }
        } else if (asked.matches()) {
            answers++;
            long got = answer(asked.group(1), asked.group(2).isEmpty() ? new String[0] : asked.group(2).split(", "));
            if (got != Long.parseLong(asked.group(3))) {
                fault(line + " answered " + got);
            }
        } else {
            fault("this line can't be tried: " + line);
        }
    }

    private static long answer(String call, String[] told) throws Exception {
        for (Method m : ThreeDoors.class.getMethods()) {
            if (m.getDeclaringClass() == ThreeDoors.class && m.getName().equals(call)) {
                Object[] numbers = new Object[told.length];
                for (int k = 0; k < told.length; k++) {
                    boolean isLong = m.getParameterTypes()[k] == long.class;
                    numbers[k] = isLong ? (Object) Long.valueOf(told[k]) : (Object) Integer.valueOf(told[k]);
                }
                return ((Number) m.invoke(town, numbers)).longValue();
            }
        }
        fault("there is no call " + call);
        return 0;
    }
}
