import java.nio.file.Files;
import java.nio.file.Path;
import java.util.function.Supplier;
import java.util.function.ToIntFunction;

/** Tests of boundary cases, each under the sentence of the document that it would see broken. */
final class Edges {
    private static final Path DOCUMENT = Path.of("..", "shared", "DOC.md");

    private final Check check = new Check("EdgesTest");
    private final Doc doc;
    private int section = Doc.TERMS;
    private String words = "";
    private int askedBefore = 0;

    Edges() throws Exception {
        doc = Files.isReadable(DOCUMENT) ? new Doc(DOCUMENT) : null;
        if (doc == null) {
            System.out.println("EdgesTest: no " + DOCUMENT + " here, so its words are not compared");
        }
    }

    /** Begins the test of a sentence of the document's Terms. */
    void terms(String sentence) {
        promise(Doc.TERMS, sentence);
    }

    /** Begins the test of a sentence of a promise. */
    void promise(int number, String sentence) {
        endSentence();
        section = number;
        words = sentence;
        askedBefore = check.asked();
        if (doc != null && !doc.quote(number, sentence)) {
            check.fail("the document does not say under " + number + ": \"" + sentence + "\"");
        }
    }

    private void endSentence() {
        if (!words.isEmpty() && check.asked() == askedBefore) {
            check.fail("nothing was asked under \"" + words + "\"");
        }
    }

    void due(String call, long got, long want) {
        check.due(section, "\"" + words + "\": " + call, got, want);
    }

    void same(String what, String got, String want) {
        check.due(section, "\"" + words + "\": " + what + " " + got + " / " + want, got.equals(want) ? 1 : 0, 1);
    }

    /** The call has that answer, and all that calls can tell is as if it had not been made. */
    void unchanged(String call, Supplier<ThatchCoats> made, ToIntFunction<ThatchCoats> asked, int want) {
        ThatchCoats x = made.get();
        due(call, asked.applyAsInt(x), want);
        same(call + " changed something:", Seen.all(x), Seen.all(made.get()));
    }

    void coat(ThatchCoats x, int coat, int kind, int thick, int damp) {
        due("of(" + coat + ", 0)", x.of(coat, 0), kind);
        due("of(" + coat + ", 1)", x.of(coat, 1), thick);
        due("of(" + coat + ", 2)", x.of(coat, 2), damp);
    }

    void end() {
        endSentence();
        if (doc != null) {
            for (String open : doc.boundariesNotQuoted()) {
                check.fail("a boundary without a test: " + open);
            }
        }
        check.end();
    }
}
