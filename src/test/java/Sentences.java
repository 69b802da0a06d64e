import java.nio.file.Path;
import java.util.HashSet;
import java.util.Set;

/** Runs tests of single sentences of the document, each on a new object, and looks that no sentence lacks one. */
final class Sentences {
    /** A test of one sentence. */
    interface Test {
        void run(OrchestraLibrary x);
    }

    /** A line that only says what a parameter is called, as «`edition`: the edition». */
    private static final String PLAIN_PARAMETER = "`\\w+`: [a-z ]+";

    private final Checks checks = new Checks("SentencesTest");
    private final Document document;
    private final Set<String> told = new HashSet<>();
    private String section = "";
    private String words = "";
    private int tests;

    Sentences(Path path) throws Exception {
        document = new Document(path);
    }

    void section(String name) {
        section = name;
        checks.holds("the document has the section " + name, !document.sentencesOf(name).isEmpty());
    }

    void test(String someWords, Test test) {
        words = someWords;
        tests++;
        note(someWords);
        try {
            test.run(new OrchestraLibrary());
        } catch (RuntimeException e) {
            checks.holds(place() + ": no exception, as " + e, false);
        }
    }

    /** Sentences that only name a thing, or that are tested with the others of their section. */
    void namesNoBoundary(String... sentences) {
        for (String sentence : sentences) {
            note(sentence);
        }
    }

    private void note(String someWords) {
        String sentence = document.sentenceWith(section, someWords);
        checks.holds(section + " has one sentence with \"" + someWords + "\"", sentence != null);
        told.add(section + "|" + sentence);
    }

    void due(int got, int want) {
        checks.due(got == want ? "" : place(), got, want);
    }

    void dueBits(int got, float want) {
        due(got, Float.floatToIntBits(want));
    }

    /** The answers of some calls against those that are due. */
    void dueAll(int[] got, int... want) {
        due(got.length, want.length);
        for (int i = 0; i < Math.min(got.length, want.length); i++) {
            due(got[i], want[i]);
        }
    }

    void holds(boolean isSo) {
        due(isSo ? 1 : 0, 1);
    }

    private String place() {
        String line = StackWalker.getInstance().walk(frames -> frames
            .filter(frame -> !frame.getClassName().equals("Sentences")).findFirst()
            .map(frame -> frame.getFileName() + " line " + frame.getLineNumber()).orElse(""));
        return section + ", \"" + words + "\", " + line;
    }

    void finish() {
        for (String name : document.sections()) {
            for (String sentence : document.sentencesOf(name)) {
                boolean isTold = told.contains(name + "|" + sentence) || sentence.matches(PLAIN_PARAMETER);
                checks.holds("a test for \"" + sentence + "\" in " + name, isTold);
            }
        }
        for (int promise = 1; promise <= 44; promise++) {
            checks.holds("the document has promise " + promise, !document.sentencesOf("Promise " + promise).isEmpty());
        }
        System.out.println(tests + " tests of sentences");
        checks.finish();
    }
}
