import java.io.IOException;
import java.nio.file.DirectoryStream;
import java.nio.file.Files;
import java.nio.file.Path;
import java.util.BitSet;
import java.util.LinkedHashMap;
import java.util.Map;
import java.util.regex.Matcher;
import java.util.regex.Pattern;

/**
 * That no sentence of the document is without a test: each of its words stands in a quote that some
 * test gives to Check.holds, and each quote is the document's own words.
 */
public final class DocumentTest {
    private static final Path DOCUMENT = Path.of("../shared/DOC.md");
    private static final Path TESTS = Path.of("src/test/java");
    private static final String FACE = "The public face";
    private static final Pattern HEADING = Pattern.compile("## ([^:\n]+)[^\n]*\n");
    private static final Pattern SIGNATURE = Pattern.compile("`([^`]+)`: ");
    private static final Pattern TEXTS = Pattern.compile("\"([^\"]*)\"");
    private static final Pattern QUOTE = Pattern.compile(
            "Check\\.holds\\(\\s*\"([^\"]*)\",\\s*(\"[^\"]*\"(?:\\s*\\+\\s*\"[^\"]*\")*)\\)");

    // Whatever the class did, these would not be broken: there is nothing that a test could find.
    private static final String[][] FREE = {
        {"What it is", "what later calls answer is free."},
        {"Not promised", "How the state is held inside the object is free, as are the speed of each call, "
            + "the text of toString and the behaviour of equals and hashCode. "
            + "Use of one object from several threads at once is not promised to be safe. "
            + "Nothing is promised beyond the answers and state changes described above, "
            + "and nothing about an object after its 512th call."},
    };

    private final Map<String, String> sections = new LinkedHashMap<>();
    private final Map<String, BitSet> held = new LinkedHashMap<>();

    public static void main(String[] args) throws IOException {
        DocumentTest test = new DocumentTest();
        test.readSections(Files.readString(DOCUMENT));
        test.readQuotes();
        for (String[] free : FREE) {
            test.quote("what is free", free[0], free[1]);
        }
        test.tellWhatNoneHolds();
        Check.end();
    }

    private void readSections(String document) {
        Matcher heading = HEADING.matcher(document);
        String name = null;
        int from = 0;
        while (heading.find()) {
            if (name != null) {
                section(name, document.substring(from, heading.start()));
            }
            name = heading.group(1);
            from = heading.end();
        }
        section(name, document.substring(from));
    }

    private void section(String name, String text) {
        String plain = text.replaceAll("```\\w*", " ").replaceAll("\\s+", " ").trim();
        Matcher signature = SIGNATURE.matcher(plain);
        if (signature.lookingAt()) {
            // FaceTest holds the face line by line, and with it the line that each promise begins with.
            String line = "public " + signature.group(1) + ";";
            Check.due(name + " begins with a line of the face", sections.get(FACE).contains(line), true);
            plain = plain.substring(signature.end());
        }
        sections.put(name, plain);
        held.put(name, new BitSet());
    }

    private void readQuotes() throws IOException {
        try (DirectoryStream<Path> files = Files.newDirectoryStream(TESTS, "*Test.java")) {
            for (Path file : files) {
                if (!file.endsWith("DocumentTest.java")) {
                    readQuotes(file.getFileName().toString(), Files.readString(file));
                }
            }
        }
    }

    private void readQuotes(String file, String source) {
        int calls = source.split("Check\\.holds\\(", -1).length - 1;
        int seen = 0;
        Matcher call = QUOTE.matcher(source);
        while (call.find()) {
            seen++;
            quote(file, call.group(1), joined(call.group(2)));
        }
        Check.due(file + ", quotes that are written out", seen, calls);
    }

    private static String joined(String parts) {
        StringBuilder all = new StringBuilder();
        Matcher part = TEXTS.matcher(parts);
        while (part.find()) {
            all.append(part.group(1));
        }
        return all.toString();
    }

    private void quote(String file, String section, String words) {
        String text = sections.getOrDefault(section, "");
        int at = 0;
        for (String part : words.split("\\.\\.\\.")) {
            String plain = part.trim();
            at = text.indexOf(plain, at);
            Check.due(file + " quotes the section \"" + section + "\": \"" + plain + "\"", at >= 0, true);
            if (at < 0) {
                return;
            }
            held.get(section).set(at, at + plain.length());
            at += plain.length();
        }
    }

    private void tellWhatNoneHolds() {
        sections.forEach((name, text) -> {
            StringBuilder rest = new StringBuilder();
            for (int i = 0; i < text.length(); i++) {
                rest.append(held.get(name).get(i) ? ' ' : text.charAt(i));
            }
            // Marks between two quotes say nothing of their own.
            String words = rest.toString().replaceAll("[;:,.}]", " ").replaceAll("\\s+", " ").trim();
            Check.due(name + ": words that no test holds", words, "");
        });
    }
}
