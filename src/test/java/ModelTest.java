import java.lang.reflect.Method;
import java.util.ArrayList;
import java.util.Arrays;
import java.util.List;
import java.util.Random;

/** Runs of 512 calls by chance, always the same ones, on OrchestraLibrary and on Model; all answers must be equal. */
public final class ModelTest {
    private static final int RUNS = 1500;
    private static final int CALLS = 512;
    private static final Checks CHECKS = new Checks("ModelTest");
    /** The calls, those that build and change twice or more, as they make what the others tell of. */
    private static final String[] CALL_NAMES = {
        "edition", "derive", "derive", "cut", "insert", "insert", "rework", "rework", "ofEdition", "bar", "carry",
        "compare", "compare", "difference", "difference", "difference", "tempo", "tempo", "seconds", "length", "barAt",
        "pace", "seat", "needs", "buy", "buy", "stock", "bow", "bow", "bow", "bow", "bowing", "copyBowings",
        "copyBowings", "copied", "lend", "lend", "lend", "lendAll", "bring", "bring", "loan", "overdue", "borrower",
        "pass", "box", "put", "put", "look", "likeBox", "text", "text", "append", "read", "faultPosition", "failed",
        "refusal", "count", "undo", "undo", "save", "restore"};

    private final Random random;
    private final OrchestraLibrary library = new OrchestraLibrary();
    private final Model model = new Model();
    private final List<String> run = new ArrayList<>();
    private final boolean[] isLeftOut = new boolean[CALL_NAMES.length];
    private final int wild;
    private int calls;

    private ModelTest(int seed) {
        random = new Random(seed);
        // Runs differ in the calls that they leave out, so that buying does not always forbid cutting, and so on.
        int leftOut = random.nextInt(3);
        for (int i = 0; i < CALL_NAMES.length; i++) {
            isLeftOut[i] = random.nextInt(4) < leftOut && i > 1;
        }
        wild = random.nextInt(3) == 0 ? 4 : 40;
    }

    public static void main(String[] args) throws Exception {
        for (int seed = 0; seed < RUNS; seed++) {
            new ModelTest(seed).go(seed);
        }
        CHECKS.finish();
    }

    private void go(int seed) throws Exception {
        if (random.nextInt(3) > 0) {
            prepare();
        }
        while (calls < CALLS) {
            int i = random.nextInt(CALL_NAMES.length);
            if (isLeftOut[i]) {
                continue;
            }
            boolean isRight = some(CALL_NAMES[i]);
            CHECKS.holds("run " + seed + (isRight ? "" : ": " + run), isRight);
            if (!isRight) {
                return;
            }
        }
    }

    private boolean some(String name) throws Exception {
        if (name.equals("text")) {
            return readSomeText();
        }
        boolean isRight = call(name, arguments(name));
        if (name.equals("undo")) {
            for (int i = random.nextInt(10); i > 5 && isRight; i--) {
                isRight = call("undo");
            }
        }
        return isRight;
    }

    private void prepare() throws Exception {
        call("edition", 0, pick(1, 99), pick(1, 9));
        call("edition", 1, pick(1, 6), pick(1, 9));
        call("derive", 0);
        call("derive", 0);
        call("derive", 2);
    }

    private boolean call(String name, int... arguments) throws Exception {
        if (calls == CALLS) {
            return true;
        }
        Class<?>[] types = new Class<?>[arguments.length];
        Object[] values = new Object[arguments.length];
        for (int i = 0; i < arguments.length; i++) {
            types[i] = int.class;
            values[i] = arguments[i];
        }
        Method ofLibrary = OrchestraLibrary.class.getDeclaredMethod(name, types);
        Method ofModel = Model.class.getDeclaredMethod(name, types);
        int got = (Integer) ofLibrary.invoke(library, values);
        int want = (Integer) ofModel.invoke(model, values);
        calls++;
        String told = Arrays.toString(arguments);
        run.add(name + "(" + told.substring(1, told.length() - 1) + ") " + got + (got == want ? "" : " for " + want));
        return got == want;
    }

    private int pick(int least, int most) {
        return least + random.nextInt(most - least + 1);
    }

    /** Mostly a number in the range, now and then one just or far outside. */
    private int about(int least, int most) {
        if (random.nextInt(wild) > 0) {
            return pick(least, most);
        }
        int[] others = {least - 1, most + 1, least, most, Integer.MIN_VALUE, Integer.MAX_VALUE, -1, 0};
        return others[random.nextInt(others.length)];
    }

    private int someEdition() {
        return about(0, Math.max(0, model.count(0) - 1));
    }

    private int someBar(int edition) {
        return about(1, Math.max(1, model.ofEdition(edition, 1)));
    }

    private int someLoan() {
        return about(0, Math.max(0, model.count(1) - 1));
    }

    private int someTenths() {
        return random.nextInt(4) == 0 ? 0 : about(200, 2500);
    }

    private int[] arguments(String name) {
        int edition = someEdition();
        switch (name) {
            case "edition": return new int[] {about(0, 3), random.nextInt(2) == 0 ? about(1, 99) : pick(1, 12), about(1, 9)};
            case "derive": case "length": case "pace": return new int[] {edition};
            case "cut": return ofBars(edition);
            case "insert": return new int[] {edition, random.nextInt(5) == 0 ? 0 : someBar(edition),
                random.nextInt(4) == 0 ? about(1, 99) : about(1, 5), about(1, 9)};
            case "rework": return new int[] {edition, someBar(edition), about(1, 9)};
            case "ofEdition": return new int[] {edition, about(0, 6)};
            case "bar": return new int[] {edition, someBar(edition), about(0, 4)};
            case "carry": return new int[] {edition, someBar(edition), someEdition()};
            case "compare": return new int[] {edition, someEdition(), about(0, 4)};
            case "difference": return new int[] {edition, someEdition(), about(0, 6), about(0, 3)};
            case "tempo": return new int[] {edition, someBar(edition), someTenths()};
            case "seconds": return ofBars(edition);
            case "barAt": return new int[] {edition, about(0, 250)};
            case "seat": return new int[] {about(0, 5), about(0, random.nextInt(2) == 0 ? 4 : 20)};
            case "needs": case "copied": return new int[] {about(0, 5)};
            case "buy": return new int[] {edition, about(0, 5), about(1, 30)};
            case "stock": return new int[] {edition, about(0, 5), about(0, 3)};
            case "bow": return new int[] {edition, about(0, 3), someBar(edition), about(0, 4)};
            case "bowing": return new int[] {edition, about(0, 3), someBar(edition)};
            case "copyBowings": return new int[] {edition, someEdition(), about(0, 3), about(0, 1)};
            case "lend": return new int[] {about(0, 5), edition, about(0, 5), about(1, 6), about(0, 20)};
            case "lendAll": return new int[] {about(0, 5), edition, about(0, 20)};
            case "bring": return new int[] {someLoan(), about(0, 3), about(0, 2)};
            case "loan": return new int[] {someLoan(), about(0, 7)};
            case "overdue": return new int[] {about(0, 4)};
            case "borrower": return new int[] {about(0, 5), about(0, 3)};
            case "pass": return new int[] {random.nextInt(9) == 0 ? about(1, 999) : about(1, 9)};
            case "box": return new int[] {about(0, 2), about(0, 3), about(0, 8)};
            case "put": return new int[] {about(0, 2), about(0, 4), edition, about(-1, 5)};
            case "look": return new int[] {about(0, 2), about(0, 4), about(0, 1)};
            case "likeBox": return new int[] {about(0, 2), about(0, 2)};
            case "append": return new int[] {about(32, 126)};
            case "count": return new int[] {about(0, 10)};
            default: return new int[0];
        }
    }

    private int[] ofBars(int edition) {
        int from = someBar(edition);
        int to = random.nextInt(4) == 0 ? someBar(edition) : Math.min(from + random.nextInt(4), Math.max(from, 99));
        return new int[] {edition, from, to};
    }

    private boolean readSomeText() throws Exception {
        StringBuilder text = new StringBuilder();
        int commands = pick(1, 4);
        for (int i = 0; i < commands; i++) {
            text.append(i == 0 ? "" : ";").append(someCommand());
        }
        if (random.nextInt(4) == 0) {
            spoil(text);
        }
        boolean isRight = true;
        for (int i = 0; i < text.length() && isRight; i++) {
            isRight = call("append", text.charAt(i));
        }
        return isRight && call("read") && call("faultPosition") && call("failed") && call("refusal");
    }

    private String someCommand() {
        int edition = pick(0, Math.max(0, model.count(0) - 1));
        int bar = pick(1, Math.max(1, model.ofEdition(edition, 1)));
        switch (random.nextInt(7)) {
            case 0: return "c" + edition + ":" + bar + "-" + number(bar + random.nextInt(3));
            case 1: return "i" + edition + ":" + number(bar) + "+" + number(pick(1, 4)) + "*" + pick(0, 9);
            case 2: return "w" + edition + ":" + number(bar) + "=" + pick(0, 9);
            case 3: return "t" + edition + ":" + number(bar) + "=" + number(random.nextInt(5) * 500);
            case 4: return "b" + edition + "." + pick(0, 4) + ":" + number(bar) + "=" + pick(0, 4);
            case 5: return "l" + pick(0, 6) + ":" + edition + "." + pick(0, 5) + "*" + number(pick(1, 4)) + "/" + number(pick(0, 9));
            default: return "r" + number(pick(0, Math.max(0, model.count(1) - 1))) + ":" + pick(0, 2) + "+" + pick(0, 2);
        }
    }

    private String number(int n) {
        StringBuilder digits = new StringBuilder(Integer.toString(n));
        for (int i = random.nextInt(6); i > 3 && digits.length() < 4; i--) {
            digits.insert(0, '0');
        }
        return digits.toString();
    }

    private void spoil(StringBuilder text) {
        String signs = "0123456789:;.-+*=/ ciwtblrx";
        char sign = signs.charAt(random.nextInt(signs.length()));
        int at = random.nextInt(text.length());
        switch (random.nextInt(4)) {
            case 0: text.setLength(at); break;
            case 1: text.setCharAt(at, sign); break;
            case 2: text.insert(at, sign); break;
            default: text.deleteCharAt(at); break;
        }
    }
}
