import java.io.IOException;
import java.nio.file.Files;
import java.nio.file.Path;
import java.util.Arrays;
import java.util.Set;
import java.util.TreeSet;
import java.util.regex.Matcher;
import java.util.regex.Pattern;

/** The program keeps to ../shared/LANGUAGE.md, as far as its text alone can show it. */
public final class LanguageTest {
    private static final String[] FORBIDDEN = {
        "\\bimport\\b", "\\bpackage\\b", "->", "::", "\\btry\\b", "\\bcatch\\b", "\\bfinally\\b", "\\bthrows?\\b",
        "\\bsynchronized\\b", "\\bassert\\b", "\\binstanceof\\b", "\\bnative\\b", "\\bvar\\b", "\\byield\\b",
        "\\bprotected\\b", "\\bdouble\\b", "\\bfloat\\b", "@", "\"",
    };
    private static final Set<String> LIBRARY = new TreeSet<>(Arrays.asList(
        "Math.max", "Math.min", "Math.abs", "Integer.bitCount", "DealBook.MOST_BOTTLES"));
    private static final int LONGEST_METHOD = 60, MOST_PARAMETERS = 7, MOST_CLASSES = 12;

    public static void main(String[] args) throws IOException {
        String source = Files.readString(Path.of("src/main/java/BarMeasure.java"));
        String code = source.replaceAll("(?s)/\\*.*?\\*/", "").replaceAll("//[^\n]*", "");
        for (String word : FORBIDDEN) {
            if (Pattern.compile(word).matcher(code).find()) {
                Due.tell("the program holds " + word);
            }
        }
        checkLibrary(code);
        checkMethods(source);
        int classes = code.split("\\bclass\\b", -1).length - 1;
        if (classes > MOST_CLASSES) {
            Due.tell("the program has " + classes + " classes");
        }
        Due.end();
    }

    private static void checkLibrary(String code) {
        Matcher use = Pattern.compile("\\b[A-Z][a-z]\\w*\\.\\w+").matcher(code);
        while (use.find()) {
            if (!LIBRARY.contains(use.group())) {
                Due.tell("the program uses " + use.group());
            }
        }
    }

    /** A method begins with a line that ends in ") {" and has a type, and ends where its brace stands again. */
    private static void checkMethods(String source) {
        String[] lines = source.split("\n");
        Pattern head = Pattern.compile("( +)(private |public |static |final )*[A-Za-z\\[\\]]+ \\w+\\((.*)\\) \\{");
        for (int i = 0; i < lines.length; i++) {
            Matcher method = head.matcher(lines[i]);
            if (!method.matches() || lines[i].trim().startsWith("else")) {
                continue;
            }
            int end = i;
            while (!lines[end].equals(method.group(1) + "}")) {
                end++;
            }
            if (end - i + 1 > LONGEST_METHOD || method.group(3).split(",").length > MOST_PARAMETERS) {
                Due.tell("too long a method: " + lines[i]);
            }
        }
    }
}
