import java.io.IOException;
import java.nio.file.Path;

/** For each sentence of the document that names a boundary, a test of its own. */
public final class SentenceTests {
    public static void main(String[] args) throws IOException {
        all();
        int wrong = Sentences.broken().size();
        for (String sentence : Sentences.notInDocument(Path.of("../shared/DOC.md"))) {
            wrong++;
            System.out.println("not in the document: " + sentence);
        }
        System.out.println(wrong == 0
                ? Sentences.told().size() + " sentences hold"
                : wrong + " of " + Sentences.told().size() + " sentences are broken");
        if (wrong != 0) {
            System.exit(1);
        }
    }

    static void all() {
        TermSentences.all();
        ChangeSentences.all();
        BuildSentences.all();
        TellSentences.all();
        EventSentences.all();
        NextSentences.all();
        TextSentences.all();
    }
}
