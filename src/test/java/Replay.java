import java.lang.reflect.Method;
import java.util.ArrayList;
import java.util.Arrays;
import java.util.List;

/**
 * A run of calls that can be repeated on new objects. Telling a whole state takes more calls than the 512 for which an
 * object may be used, so each object that has had the same calls is asked for a part of it.
 */
final class Replay {
    private static final int LIMIT = 512;

    private record Call(String name, int... numbers) {
        int on(OrchestraLibrary x) {
            Class<?>[] types = new Class<?>[numbers.length];
            Arrays.fill(types, int.class);
            try {
                Method method = OrchestraLibrary.class.getDeclaredMethod(name, types);
                return (Integer) method.invoke(x, Arrays.stream(numbers).boxed().toArray());
            } catch (ReflectiveOperationException e) {
                throw new IllegalStateException(name + Arrays.toString(numbers), e);
            }
        }
    }

    private final List<Call> past = new ArrayList<>();
    private final OrchestraLibrary present = new OrchestraLibrary();

    int call(String name, int... numbers) {
        if (past.size() == LIMIT) {
            throw new IllegalStateException("more calls than an object may have");
        }
        Call call = new Call(name, numbers);
        past.add(call);
        return call.on(present);
    }

    int readText(String text) {
        for (int i = 0; i < text.length(); i++) {
            call("append", text.charAt(i));
        }
        return call("read");
    }

    private OrchestraLibrary repeated() {
        OrchestraLibrary x = new OrchestraLibrary();
        for (Call call : past) {
            call.on(x);
        }
        return x;
    }

    /** The answers of calls that change nothing, which are not noted. */
    private List<Integer> ask(List<Call> questions) {
        List<Integer> answers = new ArrayList<>();
        int toEach = LIMIT - past.size();
        OrchestraLibrary asked = null;
        for (int i = 0; i < questions.size(); i++) {
            if (i % toEach == 0) {
                asked = repeated();
            }
            answers.add(questions.get(i).on(asked));
        }
        return answers;
    }

    /** All that undo and restore bring back, but for the greatest origins and versions, which no call tells. */
    List<Integer> print() {
        List<Call> questions = new ArrayList<>();
        for (int what = 0; what <= 8; what++) {
            questions.add(new Call("count", what));
        }
        for (int edition = 0; edition < 6; edition++) {
            addQuestionsOfEdition(edition, questions);
        }
        for (int number = 0; number < 6; number++) {
            questions.add(new Call("needs", number));
            addQuestions(questions, 4, "borrower", number);
        }
        for (int loan = 0; loan < 20; loan++) {
            questions.add(new Call("overdue", loan));
            addQuestions(questions, 8, "loan", loan);
        }
        return ask(questions);
    }

    private void addQuestionsOfEdition(int edition, List<Call> questions) {
        addQuestions(questions, 7, "ofEdition", edition);
        int bars = ask(List.of(new Call("ofEdition", edition, 1))).get(0);
        for (int bar = 1; bar <= bars; bar++) {
            addQuestions(questions, 5, "bar", edition, bar);
            for (int instrument = 0; instrument < 4; instrument++) {
                questions.add(new Call("bowing", edition, instrument, bar));
            }
        }
        for (int instrument = 0; instrument < 6; instrument++) {
            addQuestions(questions, 4, "stock", edition, instrument);
        }
    }

    /** A question for each of the numbers from 0 that stand for what is asked. */
    private static void addQuestions(List<Call> questions, int whats, String name, int... numbers) {
        for (int what = 0; what < whats; what++) {
            int[] withWhat = Arrays.copyOf(numbers, numbers.length + 1);
            withWhat[numbers.length] = what;
            questions.add(new Call(name, withWhat));
        }
    }
}
