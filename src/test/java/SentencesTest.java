import java.io.IOException;
import java.nio.file.Files;
import java.nio.file.Path;
import java.util.ArrayList;
import java.util.Comparator;
import java.util.List;
import java.util.regex.Matcher;
import java.util.regex.Pattern;
import java.util.stream.Collectors;
import java.util.stream.Stream;

/** That each sentence of the document's Terms and promises has a test of its own: an Edges.says() with its words. */
public final class SentencesTest {
    private static final Check CHECK = new Check("SentencesTest");
    private static final Pattern SAYS = Pattern.compile("EDGES\\.says\\((\"(?:[^\"\\\\]|\\\\.)*\"(?:\\s*\\+\\s*\"(?:[^\"\\\\]|\\\\.)*\")*)\\)");

    public static void main(String[] args) throws IOException {
        List<String> told = told();
        // The longest first: a short one must not take a piece out of a longer one.
        told.sort(Comparator.comparingInt(String::length).reversed());
        String left = sentences();
        for (String words : told) {
            int at = left.indexOf(words);
            CHECK.due("still there: " + words, at >= 0, true);
            // Each test stands for its words once: words that the document says twice need two tests.
            left = at < 0 ? left : left.substring(0, at) + "#" + left.substring(at + words.length());
        }
        for (String piece : left.split("#")) {
            boolean isTold = !Pattern.compile("[A-Za-z0-9]").matcher(piece).find();
            CHECK.due("a sentence without a test: " + piece, isTold, true);
        }
        CHECK.end();
    }

    /** What the tests quote. */
    private static List<String> told() throws IOException {
        List<Path> files;
        try (Stream<Path> all = Files.list(Path.of("src/test/java"))) {
            files = all.filter(p -> p.getFileName().toString().startsWith("Edges")).sorted().collect(Collectors.toList());
        }
        List<String> told = new ArrayList<>();
        for (Path file : files) {
            Matcher says = SAYS.matcher(Files.readString(file));
            while (says.find()) {
                told.add(says.group(1).replaceAll("\"\\s*\\+\\s*\"", "").replaceAll("^\"|\"$", ""));
            }
        }
        return told;
    }

    /** What the document says from its Terms on, without headings, signatures and what the interface says. */
    private static String sentences() throws IOException {
        String document = Files.readString(Path.of("../shared/DOC.md"));
        String calls = "An object is used for at most 512 calls after it has been made; what later calls answer is free.";
        CHECK.due("the document says: " + calls, document.contains(calls), true);
        String terms = document.substring(document.indexOf("## Terms"), document.indexOf("## Not promised"));
        terms = terms.replaceAll("(?m)^## .*$", " # ").replaceAll("(?m)^```\\w*$", " # ");
        terms = terms.replaceAll("(?m)^Ahead of the calls .*$", " # ");
        terms = terms.replaceAll("(?m)^`[^`]*\\)`: ", " # ").replaceAll("(?m)^I+\\. ", " # ");
        return calls + " # " + terms.replaceAll("\\s+", " ");
    }
}
