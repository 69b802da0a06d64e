import java.nio.file.Path;

/** Each sentence of the document that names a boundary case, with a test of its own. */
public final class SentencesTest {
    public static void main(String[] args) throws Exception {
        Sentences sentences = new Sentences(Path.of(args[1]));
        new EditionSentences(sentences).testAll();
        new DifferenceSentences(sentences).testAll();
        new TempoSentences(sentences).testAll();
        new PartSentences(sentences).testAll();
        new LoanSentences(sentences).testAll();
        new BoxSentences(sentences).testAll();
        new TextSentences(sentences).testAll();
        new ChangeSentences(sentences).testAll();
        sentences.finish();
    }
}
