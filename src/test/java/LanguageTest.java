import java.nio.file.Files;
import java.nio.file.Path;
import java.util.ArrayList;
import java.util.List;
import java.util.regex.Matcher;
import java.util.regex.Pattern;

/** What of LANGUAGE.md can be seen from the text of the class: words it may not hold, lengths, numbers of things. */
public final class LanguageTest {
    private static int wrong = 0;

    public static void main(String[] args) throws Exception {
        List<String> lines = new ArrayList<>();
        for (String line : Files.readAllLines(Path.of("src/main/java/ThreeDoors.java"))) {
            lines.add(bare(line));
        }
        words(lines);
        sizes(lines);
        System.out.println(wrong == 0 ? "language: as due" : "language: " + wrong + " faults");
        if (wrong != 0) {
            System.exit(1);
        }
    }

    private static void must(boolean holds, int rule, int line, String what) {
        if (!holds) {
            wrong++;
            System.out.println("language: rule " + rule + ", line " + line + ": " + what);
        }
    }

    /** A line without comments, signs and texts; the class has no comment that begins amid one line and ends in another. */
    private static String bare(String line) {
        String text = line.strip();
        if (text.startsWith("/*") || text.startsWith("*")) {
            return "";
        }
        return line.replaceAll("'[^']*'", "0").replaceAll("\"[^\"]*\"", "").replaceAll("//.*", "");
    }

    private static void words(List<String> lines) {
        String[] not = {"throw", "throws", "try", "catch", "finally", "synchronized", "assert", "package", "protected",
            "volatile", "native", "Thread", "Random", "Scanner", "File", "Object", "Exception"};
        String[] made = {"boolean equals\\(", "int hashCode\\(", "String toString\\("};
        String types = "ArrayList|List|Iterator|Arrays";
        for (int k = 0; k < lines.size(); k++) {
            String line = lines.get(k);
            for (String word : not) {
                must(!line.matches(".*\\b" + word + "\\b.*"), 6, k + 1, word);
            }
            for (String declared : made) {
                must(!line.matches(".*\\b" + declared + ".*"), 6, k + 1, declared);
            }
            must(!line.startsWith("import") || line.matches("import java\\.util\\.(" + types + ");"), 4, k + 1, line);
            must(!line.matches(".*->.*") || line.matches("\\s*(case .*|default) ->.*"), 2, k + 1, "a lambda");
            must(!line.contains("::"), 2, k + 1, "a method reference");
            must(!line.matches("\\s*static \\{.*"), 5, k + 1, "a static block");
            must(line.chars().allMatch(c -> c < 128), 4, k + 1, "a sign above 127");
            must(!line.matches(".*(while \\(true\\)|for \\(;;).*"), 9, k + 1, "a loop without an end");
            library(line, k + 1);
        }
    }

    private static void library(String line, int number) {
        Matcher used = Pattern.compile("\\b(Integer|Long|Math|System|Arrays)\\.(\\w+)").matcher(line);
        while (used.find()) {
            boolean good = used.group(1).equals("System") ? used.group(2).equals("arraycopy")
                : used.group(1).equals("Arrays") ? List.of("copyOf", "copyOfRange", "fill").contains(used.group(2))
                : !used.group(2).endsWith("Exact");
            must(good, 4, number, used.group());
        }
    }

    private static void sizes(List<String> lines) {
        int classes = 0;
        int begun = 0;
        for (int k = 0; k < lines.size(); k++) {
            String line = lines.get(k);
            classes += line.matches(".*\\bclass \\w+.*") ? 1 : 0;
            boolean method = line.matches("\\s*[\\w\\[\\] ]+\\w+\\(.*\\) \\{")
                && !line.matches("\\s*(}|for|while|if|switch|else).*");
            if (method) {
                begun = k;
                must(line.split(",").length <= 7, 11, k + 1, "more than seven parameters");
                String close = line.replaceAll("\\S.*", "}");
                int end = k;
                while (end < lines.size() && !lines.get(end).equals(close)) {
                    end++;
                }
                must(end - begun <= 60, 11, k + 1, "a long method: " + (end - begun));
            }
        }
        must(classes <= 12, 11, 0, classes + " classes");
        fields(lines);
    }

    private static void fields(List<String> lines) {
        int many = 0;
        for (int k = 0; k < lines.size(); k++) {
            String line = lines.get(k);
            if (line.matches(".*\\bclass \\w+.*")) {
                many = 0;
            }
            if (line.matches("\\s*(private |final )*[\\w\\[\\]]+ \\w+( = .*)?;") && !line.contains("return")
                && (line.matches("        [a-z].*") || line.matches("    [a-z].*"))) {
                boolean ofClass = line.matches(" {4}\\S.*") || line.matches(" {8}\\S.*") && !inMethod(lines, k);
                many += ofClass ? 1 : 0;
                must(many <= 20, 11, k + 1, "some more than twenty fields");
            }
        }
    }

    /** Whether the nearest line above that is less indented begins a method, not a class. */
    private static boolean inMethod(List<String> lines, int k) {
        for (int above = k; above >= 0; above--) {
            if (lines.get(above).matches(" {4}\\S.*")) {
                return !lines.get(above).contains("class ");
            }
        }
        return false;
    }
}
