import java.io.IOException;
import java.nio.file.Files;
import java.nio.file.Path;
import java.util.function.IntUnaryOperator;
import java.util.regex.Matcher;
import java.util.regex.Pattern;

/**
 * Comparisons, each under the words of the document that it tests. Words that no test says, words that
 * the document does not have, and words that nothing compares are told as wrong.
 */
final class Sentences extends Check {
    private static final Path DOCUMENT = Path.of("../shared/DOC.md");
    private static final Pattern HEADING = Pattern.compile("(?m)^(## .+|[A-Z][A-Z, ]+)$");
    private static final Pattern SIGNATURE = Pattern.compile("\\s*`[^`]*`: ");

    private final String document;
    private final boolean[] isSaid;
    private String section = "";
    private int start;
    private int end;
    private String words = "";
    private int comparedBefore;

    Sentences() throws IOException {
        document = Files.readString(DOCUMENT);
        isSaid = new boolean[document.length()];
    }

    /** The sentences that follow stand below this heading. */
    void section(String heading) {
        endSentence();
        section = heading;
        start = document.indexOf("\n" + heading + "\n") + 1;
        holds("no heading " + heading, start > 0);
        int body = start + heading.length();
        Matcher matcher = HEADING.matcher(document);
        end = matcher.find(body) ? matcher.start() : document.length();
        Matcher signature = SIGNATURE.matcher(document).region(body, end);
        mark(start, signature.lookingAt() ? signature.end() : body);
    }

    /** The comparisons that follow test these words. */
    void says(String sentence) {
        aside(sentence);
        words = sentence;
        comparedBefore = compared();
    }

    /** These words name nothing that a call answers. */
    void aside(String sentence) {
        endSentence();
        promise(section + ", \"" + sentence + "\"");
        int place = placeOf(sentence);
        holds("is not in the document", place >= 0);
        if (place >= 0) {
            mark(place, place + sentence.length());
        }
    }

    /** The smallest and the largest argument are taken; those beside them and far off are the error. */
    void range(String call, int least, int most, int error, IntUnaryOperator answer) {
        int[] outside = {least - 1, most + 1, Integer.MIN_VALUE, Integer.MAX_VALUE};
        for (int argument : outside) {
            due(call + " with " + argument, answer.applyAsInt(argument), error);
        }
        int[] edges = {least, most};
        for (int argument : edges) {
            int got = answer.applyAsInt(argument);
            holds(call + " with " + argument + " answered " + got, got >= 0);
        }
    }

    @Override
    void close() {
        endSentence();
        promise("No test says");
        Matcher matcher = Pattern.compile("\\S.*").matcher(document);
        matcher.region(document.indexOf("## What it is"), document.indexOf("## Not promised"));
        while (matcher.find()) {
            String left = unsaid(matcher.start(), matcher.end());
            holds(left, !left.matches("(?s).*\\w.*") || left.equals("## Terms"));
        }
        super.close();
    }

    // The same words can stand several times below a heading: each is said in its turn.
    private int placeOf(String sentence) {
        int place = document.indexOf(sentence, start);
        while (place >= 0 && place < end && isSaid[place]) {
            place = document.indexOf(sentence, place + 1);
        }
        return place + sentence.length() <= end ? place : -1;
    }

    private void mark(int from, int to) {
        for (int index = from; index < to; index++) {
            isSaid[index] = true;
        }
    }

    private String unsaid(int from, int to) {
        StringBuilder left = new StringBuilder();
        for (int index = from; index < to; index++) {
            left.append(isSaid[index] ? "" : document.charAt(index));
        }
        return left.toString();
    }

    private void endSentence() {
        holds("nothing is compared", words.isEmpty() || compared() > comparedBefore);
        words = "";
    }
}
