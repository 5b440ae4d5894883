import java.io.IOException;
import java.nio.file.Files;
import java.nio.file.Path;
import java.util.List;
import java.util.regex.Matcher;
import java.util.regex.Pattern;

/** The rules of ../shared/LANGUAGE.md that can be seen in the text of the class. */
final class LanguageTest {
    private static final Path CLASS = Path.of("src/main/java/FarBanks.java");
    private static final List<String> FORBIDDEN = List.of(
        "import", "package", "throw", "throws", "try", "catch", "finally", "synchronized", "assert", "protected",
        "->", "::", "Exact(", "hashCode", "toString", "Thread", "Random", "Exception");
    private static final int LONGEST_METHOD = 60;
    private static final int MOST_CLASSES = 12;

    public static void main(String[] args) throws IOException {
        Check check = new Check();
        check.promise("LANGUAGE.md");
        String code = Files.readString(CLASS);
        for (String word : FORBIDDEN) {
            boolean isWord = Character.isLetter(word.charAt(0)) && Character.isLetter(word.charAt(word.length() - 1));
            String pattern = isWord ? "\\b" + word + "\\b" : Pattern.quote(word);
            check.holds("has " + word, !Pattern.compile(pattern).matcher(code).find());
        }
        check.holds("has a sign beyond 127", code.chars().allMatch(sign -> sign < 128));
        classes(check, code);
        methods(check, code.split("\n"));
        check.close();
    }

    private static void classes(Check check, String code) {
        Matcher matcher = Pattern.compile("\\bclass \\w+ \\{").matcher(code);
        int classes = 0;
        while (matcher.find()) {
            classes++;
        }
        check.holds(classes + " classes", classes <= MOST_CLASSES);
        Matcher open = Pattern.compile("(?m)^ {4}(?!private static final class).*\\bclass \\w+ \\{").matcher(code);
        check.holds("a class inside is not private, static and final", !open.find());
    }

    private static void methods(Check check, String[] lines) {
        int start = 0;
        for (int line = 0; line < lines.length; line++) {
            if (lines[line].matches(" {4}( {4})?[^ ].*\\) \\{")) {
                start = line;
            }
            if (lines[line].matches(" {4}( {4})?}")) {
                boolean isClass = lines[line].matches(" {4}}") && lines[start].startsWith("        ");
                check.holds("long method at line " + (start + 1), isClass || line - start < LONGEST_METHOD);
            }
        }
    }
}
