import java.io.IOException;
import java.nio.file.DirectoryStream;
import java.nio.file.Files;
import java.nio.file.Path;
import java.util.ArrayList;
import java.util.Comparator;
import java.util.LinkedHashMap;
import java.util.List;
import java.util.Map;
import java.util.regex.Matcher;
import java.util.regex.Pattern;

/**
 * Every word of the document's terms and promises is named beside a test: it stands in a call of
 * Bench.sentence (or of a helper that has the place in it) in one of the tests' sources.
 */
public final class SentencesTest {
    private static final Path DOCUMENT = Path.of("../shared/DOC.md");
    private static final Path TESTS = Path.of("src/test/java");
    private static final int PROMISES = 19;
    /** The helpers of the tests, by the place that they have in them. */
    private static final String[][] HELPERS = {
        {"terms\\(", "FilesTest", "Terms, A FILE"},
        {"terms\\(", "ControllersTest", "Terms, CONTROLLERS"},
        {"calls\\(", "InstructionsTest", "Terms, A CALL goes"},
        {"instructions\\(", "InstructionsTest", "Terms, 0 b:"},
    };
    private static final String TEXT = "((?:\"[^\"]*\"\\s*\\+?\\s*)+)";

    private static int wrong = 0;

    public static void main(String[] args) throws IOException {
        Map<String, List<String>> named = namedInTests();
        List<String> places = placesOfDocument();
        for (String place : places) {
            dueToBeNamed(place, named.getOrDefault(place, new ArrayList<>()));
        }
        for (String place : named.keySet()) {
            if (paragraphAt(place).isEmpty()) {
                tell("there is no such place in the document: " + place);
            }
        }
        System.out.println(places.size() + " places, " + wrong + " wrong");
        if (wrong != 0) {
            System.exit(1);
        }
    }

    private static void tell(String what) {
        wrong++;
        System.out.println(what);
    }

    /** The sentences at each place, as the tests name them. */
    private static Map<String, List<String>> namedInTests() throws IOException {
        Map<String, List<String>> named = new LinkedHashMap<>();
        try (DirectoryStream<Path> files = Files.newDirectoryStream(TESTS, "*Test.java")) {
            for (Path file : files) {
                String source = Files.readString(file);
                Matcher direct = Pattern.compile("bench\\.sentence\\(\\s*\"([^\"]*)\",\\s*" + TEXT)
                        .matcher(source);
                while (direct.find()) {
                    name(named, direct.group(1), direct.group(2));
                }
                for (String[] helper : HELPERS) {
                    if (file.endsWith(helper[1] + ".java")) {
                        Matcher call = Pattern.compile("\\b" + helper[0] + "\\s*" + TEXT)
                                .matcher(source);
                        while (call.find()) {
                            name(named, helper[2], call.group(1));
                        }
                    }
                }
            }
        }
        return named;
    }

    private static void name(Map<String, List<String>> named, String place, String text) {
        StringBuilder words = new StringBuilder();
        Matcher part = Pattern.compile("\"([^\"]*)\"").matcher(text);
        while (part.find()) {
            words.append(part.group(1));
        }
        named.computeIfAbsent(place, p -> new ArrayList<>()).add(words.toString());
    }

    private static String sectionUnder(String heading) throws IOException {
        for (String section : Files.readString(DOCUMENT).split("(?m)^## ")) {
            String[] headAndRest = section.split("\n", 2);
            String head = headAndRest[0].trim();
            if (headAndRest.length == 2 && (head.equals(heading) || head.startsWith(heading + ":"))) {
                return headAndRest[1];
            }
        }
        return "";
    }

    /** Without signatures, marks of code and line ends. */
    private static String plain(String text) {
        return text.replaceAll("```[a-z]*", " ").replaceAll("`[^`]*`:?", " ")
                .replaceAll("\\s+", " ").trim();
    }

    /** "Promise 3" is all that is promised there; "Terms, A FILE" the paragraph that begins so. */
    private static String paragraphAt(String place) throws IOException {
        String[] headingAndWords = place.split(", ", 2);
        String section = sectionUnder(headingAndWords[0]);
        if (headingAndWords.length == 1) {
            return plain(section);
        }
        for (String paragraph : section.split("\n\\s*\n")) {
            if (plain(paragraph).startsWith(headingAndWords[1])) {
                return plain(paragraph);
            }
        }
        return "";
    }

    /** Every promise, and every paragraph of the terms by its first words. */
    private static List<String> placesOfDocument() throws IOException {
        List<String> places = new ArrayList<>();
        String[] firstWords =
            {"A FILE", "CONTROLLERS", "A CLASS", "A CALL goes", "0 b:", "REFUSALS"};
        int paragraphs = 0;
        for (String paragraph : sectionUnder("Terms").split("\n\\s*\n")) {
            paragraphs += plain(paragraph).isEmpty() ? 0 : 1;
        }
        if (paragraphs != firstWords.length) {
            tell("the terms have " + paragraphs + " paragraphs");
        }
        for (String words : firstWords) {
            places.add("Terms, " + words);
        }
        for (int promise = 1; promise <= PROMISES; promise++) {
            places.add("Promise " + promise);
        }
        if (!sectionUnder("Promise " + (PROMISES + 1)).isEmpty()) {
            tell("there are more promises");
        }
        return places;
    }

    private static void dueToBeNamed(String place, List<String> sentences) throws IOException {
        String paragraph = paragraphAt(place);
        if (paragraph.isEmpty()) {
            tell("there is no such place in the document: " + place);
        }
        String left = paragraph;
        sentences.sort(Comparator.comparing(String::length).reversed());
        for (String sentence : sentences) {
            if (!paragraph.contains(sentence)) {
                tell(place + " does not say: " + sentence);
            }
            left = left.replace(sentence, " | ");
        }
        if (left.matches(".*[A-Za-z0-9].*")) {
            tell(place + ", no test names: " + left);
        }
    }
}
