import java.nio.file.Files;
import java.nio.file.Path;
import java.util.ArrayList;
import java.util.List;
import java.util.Set;
import java.util.TreeSet;
import java.util.regex.Matcher;
import java.util.regex.Pattern;
import java.util.stream.Stream;

/** What README.md says is so: its example is run, its tables are laid beside the class, the document and the tests. */
public final class ReadmeTest {
    private static final Due d = new Due();
    private static final Pattern CONSTANT = Pattern.compile("\\b(BAD|NO|FULL|NONE|NOTHING|INDEX|SIZE)\\b");

    public static void main(String[] args) throws Exception {
        String readme = Files.readString(Path.of("README.md"));
        String code = Files.readString(Path.of("src/main/java/CourtHouse.java"));
        String document = Files.readString(Path.of("../shared/DOC.md"));
        example(readme);
        calls(readme, code, document);
        constants(readme);
        classes(readme);
        tests(readme);
        library(readme, code);
        d.end("ReadmeTest");
    }

    private static void example(String readme) {
        d.says("How to make and use a house");
        int from = readme.indexOf("```java\n");
        String block = readme.substring(from, readme.indexOf("```", from + 3));
        Pattern line = Pattern.compile("house\\.(\\w+\\([^)]*\\)); +// (-?\\d+|[A-Z]+)\\b.*");
        Run x = new Run(d);
        int seen = 0;
        for (String text : block.split("\n")) {
            Matcher m = line.matcher(text);
            if (m.matches()) {
                x.go(m.group(1) + " = " + m.group(2));
                seen++;
            } else {
                boolean plain = text.isEmpty() || text.equals("```java") || text.equals("CourtHouse house = new CourtHouse();");
                d.holds("a line of the example without an answer: " + text, plain);
            }
        }
        d.holds("an example was found", seen > 20);
    }

    /** The rows of the table under such a head, each as its columns. */
    private static List<String[]> table(String readme, String head) {
        List<String[]> rows = new ArrayList<>();
        int from = readme.indexOf("| " + head + " |");
        d.holds("a table of: " + head, from >= 0);
        if (from < 0) {
            return rows;
        }
        String[] lines = readme.substring(from).split("\n");
        int columns = lines[0].split("\\|", -1).length;
        for (int i = 2; i < lines.length && lines[i].startsWith("|"); i++) {
            String[] parts = lines[i].split("\\|", -1);
            d.holds("as many columns as the head has: " + lines[i], parts.length == columns);
            rows.add(parts);
        }
        return rows;
    }

    private static String bare(String cell) {
        return cell.trim().replace("`", "");
    }

    private static Set<String> constantsIn(String text) {
        Set<String> found = new TreeSet<>();
        Matcher m = CONSTANT.matcher(text);
        while (m.find()) {
            found.add(m.group());
        }
        return found;
    }

    private static void calls(String readme, String code, String document) {
        d.says("What the calls answer");
        List<String> due = new ArrayList<>();
        Matcher m = Pattern.compile("public long (\\w+)\\(([^)]*)\\) \\{").matcher(code);
        while (m.find()) {
            due.add(m.group(1) + "(" + m.group(2).replace("int ", "") + ")");
        }
        List<String> told = new ArrayList<>();
        for (String[] row : table(readme, "call")) {
            String call = bare(row[1]);
            told.add(call);
            String name = call.substring(0, call.indexOf('('));
            int from = document.indexOf(": " + name + "\n");
            int to = document.indexOf("\n## ", from);
            Set<String> want = constantsIn(document.substring(from, to));
            Set<String> got = constantsIn(row[2] + row[3]);
            d.holds(name + " answers " + got + " here, in the document " + want, got.equals(want));
        }
        d.holds("calls " + told + ", of the class " + due, told.equals(due) && due.size() == 30);
    }

    private static void constants(String readme) throws Exception {
        d.says("constants");
        List<String[]> rows = table(readme, "constant");
        for (String[] row : rows) {
            String name = bare(row[1]);
            d.due(name, CourtHouse.class.getField(name).getLong(null), Long.parseLong(bare(row[2])));
        }
        d.due("how many", rows.size(), CourtHouse.class.getFields().length);
    }

    private static void classes(String readme) {
        d.says("How it is built");
        Set<String> due = new TreeSet<>();
        for (Class<?> inside : CourtHouse.class.getDeclaredClasses()) {
            due.add(inside.getSimpleName());
        }
        Set<String> told = new TreeSet<>();
        for (String[] row : table(readme, "class")) {
            told.add(bare(row[1]));
        }
        d.holds("classes " + told + ", of the class " + due, told.equals(due));
    }

    private static void tests(String readme) throws Exception {
        d.says("How to run the tests");
        Set<String> due = new TreeSet<>();
        try (Stream<Path> files = Files.list(Path.of("src/test/java"))) {
            files.map(f -> f.getFileName().toString()).filter(f -> f.endsWith("Test.java"))
                    .forEach(f -> due.add(f.replace(".java", "")));
        }
        Set<String> told = new TreeSet<>();
        for (String[] row : table(readme, "test")) {
            told.add(bare(row[1]));
        }
        d.holds("tests " + told + ", of the project " + due, told.equals(due));
        d.holds(".ci/run can be run", Files.isExecutable(Path.of(".ci/run")) && readme.contains("\n.ci/run\n"));
    }

    private static void library(String readme, String code) {
        d.says("of the Java library it uses .. alone");
        Set<String> due = new TreeSet<>();
        Matcher used = Pattern.compile("\\b(Arrays|Math|Integer|Long|System)\\.\\w+").matcher(code);
        while (used.find()) {
            due.add(used.group());
        }
        Set<String> told = new TreeSet<>();
        String head = readme.substring(0, readme.indexOf("\n## "));
        Matcher named = Pattern.compile("`([A-Z]\\w+\\.[a-z]\\w+)`").matcher(head);
        while (named.find()) {
            told.add(named.group(1));
        }
        d.holds("library " + told + ", in the class " + due, told.equals(due));
    }
}
