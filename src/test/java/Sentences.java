import java.io.IOException;
import java.nio.file.Files;
import java.nio.file.Path;

/** Tests by sentences of the document: each must stand there as it is told, and be asked for. */
final class Sentences {
    /** The part of the document ahead of the promises. */
    static final int TERMS = 0;
    static final int PROMISES = 43;
    private static final Path DOCUMENT = Path.of("../shared/DOC.md");

    private final Due due;
    private final String[] parts = new String[PROMISES + 1];
    private String sentence = "";
    private int asked = 1;

    Sentences(String name) throws IOException {
        due = new Due(name);
        String text = plain(Files.readString(DOCUMENT));
        int begun = 0;
        for (int i = 1; i <= PROMISES; i++) {
            int next = text.indexOf("## Promise " + i + ":");
            due.is("the document has promise " + i, next > begun ? 1 : 0, 1);
            parts[i - 1] = text.substring(begun, next);
            begun = next;
        }
        parts[PROMISES] = text.substring(begun);
    }

    /** What is asked next is for this sentence of a promise, or of what stands ahead of them. */
    void of(int promise, String quote) {
        isAsked();
        due.is("the document says: " + quote, parts[promise].contains(plain(quote)) ? 1 : 0, 1);
        sentence = quote;
        asked = 0;
    }

    void is(String call, long got, long want) {
        asked++;
        due.is("\"" + sentence + "\": " + call, got, want);
    }

    /** A call by its name. */
    void is(OvenRings x, long want, String name, long... a) {
        is(Call.text(name, a), Call.of(x, name, a), want);
    }

    /** A call that must answer this ERROR, and leave one of two towns that are alike as the other is. */
    void refused(Twins twins, int error, String name, long... a) {
        leaves(twins, error, name, a);
    }

    /** A call that must answer this, and leave one of two towns that are alike as the other is. */
    void leaves(Twins twins, int answer, String name, long... a) {
        asked++;
        String wrong = twins.differs(answer, name, a);
        due.is("\"" + sentence + "\": " + Call.text(name, a) + ", wrong is " + wrong, twins.differences(), 0);
    }

    void ends() {
        isAsked();
        due.ends();
    }

    private void isAsked() {
        due.is("asked for \"" + sentence + "\"", asked > 0 ? 1 : 0, 1);
    }

    private static String plain(String text) {
        return text.replaceAll("\\s+", " ");
    }
}
