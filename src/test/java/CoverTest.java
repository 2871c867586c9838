import java.io.IOException;
import java.nio.file.Files;
import java.nio.file.Path;
import java.util.ArrayList;
import java.util.List;
import java.util.regex.Matcher;
import java.util.regex.Pattern;
import java.util.stream.Stream;

/** Every word of the document's Terms and promises, but for their headings, is quoted by a test that asks for it. */
public final class CoverTest {
    private static final Due due = new Due("CoverTest");
    private static final Path DOCUMENT = Path.of("../shared/DOC.md");
    private static final Path TESTS = Path.of("src/test/java");
    private static final String STRING = "\"((?:[^\"\\\\]|\\\\.)*)\"";

    public static void main(String[] args) throws IOException {
        String document = document();
        List<String> quotes = quotes();
        due.is("quotes, " + quotes.size(), quotes.size() > 100 ? 1 : 0, 1);
        boolean[] covered = new boolean[document.length()];
        for (String quote : quotes) {
            for (int at = document.indexOf(quote); at >= 0; at = document.indexOf(quote, at + 1)) {
                for (int i = at; i < at + quote.length(); i++) {
                    covered[i] = true;
                }
            }
        }
        StringBuilder left = new StringBuilder();
        for (int i = 0; i < document.length(); i++) {
            left.append(covered[i] ? '\n' : document.charAt(i));
        }
        for (String part : left.toString().split("\n+")) {
            due.is("no test quotes \"" + part + "\"", part.matches(".*[0-9A-Za-z].*") ? 1 : 0, 0);
        }
        due.ends();
    }

    /** Terms and promises without headings, and without the lines that tell how the interface is set out. */
    private static String document() throws IOException {
        String all = Files.readString(DOCUMENT);
        all = all.substring(all.indexOf("## Terms"), all.indexOf("## Not promised"));
        all = all.replaceAll("(?m)^## .*$|^Ahead of the calls .*$|^```.*$|^`[^`]*`: |^\\d\\. ", "");
        return all.replaceAll("\\s+", " ");
    }

    private static List<String> quotes() throws IOException {
        List<String> all = new ArrayList<>();
        Pattern asked = Pattern.compile("due\\.of\\([^,\"]+, " + STRING + "\\)");
        try (Stream<Path> files = Files.list(TESTS)) {
            for (Path file : files.sorted().toArray(Path[]::new)) {
                Matcher m = asked.matcher(Files.readString(file).replaceAll("\"\\s*\\+ \"", ""));
                while (m.find()) {
                    all.add(m.group(1));
                }
            }
        }
        return all;
    }
}
