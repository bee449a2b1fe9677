import java.nio.file.Files;
import java.nio.file.Path;
import java.util.Set;
import java.util.regex.Matcher;
import java.util.regex.Pattern;

/** The rules of LANGUAGE.md that can be seen in the text of the class; it is run from the project's folder. */
public final class LanguageTest {
    private static final Set<String> BARRED = Set.of("throw", "throws", "try", "catch", "finally", "synchronized",
            "assert", "package", "protected", "volatile", "transient", "native", "equals", "hashCode", "toString",
            "getClass", "System.out", "Object", "Thread", "double", "float", "var");
    private static final Set<String> LIBRARY = Set.of("Arrays.fill", "Math.max", "Math.min", "Integer.bitCount",
            "System.arraycopy");

    public static void main(String[] args) throws Exception {
        Due d = new Due();
        String text = Files.readString(Path.of("src/main/java/CourtHouse.java"));
        for (int i = 0; i < text.length(); i++) {
            if (text.charAt(i) > 126) {
                d.due("sign at " + i, text.charAt(i), 0);
            }
        }
        String code = text.replaceAll("(?s)/\\*.*?\\*/", "").replaceAll("//[^\n]*", "");
        Matcher word = Pattern.compile("[A-Za-z_][A-Za-z_0-9]*").matcher(code);
        while (word.find()) {
            d.due("barred: " + word.group(), BARRED.contains(word.group()) ? 1 : 0, 0);
        }
        for (String sign : new String[] {"->", "::", "\"", "@"}) {
            d.due("barred: " + sign, code.contains(sign) ? 1 : 0, 0);
        }
        Matcher library = Pattern.compile("\\b(Arrays|Math|Integer|Long|System|String|List)\\b(\\.\\w+)?").matcher(code);
        while (library.find()) {
            boolean isImport = code.startsWith("import java.util.", Math.max(0, library.start() - 17));
            d.due("library: " + library.group(), isImport || LIBRARY.contains(library.group()) ? 1 : 0, 1);
        }
        methods(d, code);
        makesNothingInCalls(d, code);
        d.due("classes, twelve at most", code.split("\\bclass\\b").length - 1 <= 12 ? 1 : 0, 1);
        d.end("LanguageTest");
    }

    /** A run's room is small: what is made is made in fields, with the house. */
    private static void makesNothingInCalls(Due d, String code) {
        Pattern making = Pattern.compile("\\bnew\\b|\\.clone\\(|= \\{");
        for (String line : code.split("\n")) {
            if (making.matcher(line).find()) {
                boolean isField = line.matches(" +private (static )?final .*;");
                d.due("made outside a field: " + line.trim(), isField ? 1 : 0, 1);
            }
        }
    }

    private static void methods(Due d, String code) {
        String[] lines = code.split("\n");
        Pattern head = Pattern.compile("^( +)(public|private) .*\\((.*)\\) \\{$");
        int seen = 0;
        for (int i = 0; i < lines.length; i++) {
            Matcher m = head.matcher(lines[i]);
            if (!m.matches()) {
                continue;
            }
            seen++;
            int end = i;
            while (!lines[end].equals(m.group(1) + "}")) {
                end++;
            }
            d.due("sixty lines at most: " + lines[i].trim(), end - i <= 60 ? 1 : 0, 1);
            d.due("seven parameters at most: " + lines[i].trim(), m.group(3).split(",").length <= 7 ? 1 : 0, 1);
        }
        d.due("methods were found", seen > 60 ? 1 : 0, 1);
    }
}
