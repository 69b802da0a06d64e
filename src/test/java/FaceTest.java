import java.lang.reflect.Constructor;
import java.lang.reflect.Field;
import java.lang.reflect.Method;
import java.lang.reflect.Modifier;
import java.nio.file.Files;
import java.nio.file.Path;
import java.util.HashSet;
import java.util.Set;

/** The face of the document, and those rules of LANGUAGE.md that can be read off the class or its source. */
public final class FaceTest {
    private static final Checks CHECKS = new Checks("FaceTest");
    private static final String[] METHODS = {
        "edition 3", "derive 1", "cut 3", "insert 4", "rework 3", "ofEdition 2", "bar 3", "carry 3", "compare 3",
        "difference 4", "tempo 3", "seconds 3", "length 1", "barAt 2", "pace 1", "seat 2", "needs 1", "buy 3",
        "stock 3", "bow 4", "bowing 3", "copyBowings 4", "copied 1", "lend 5", "lendAll 3", "bring 3", "loan 2",
        "overdue 1", "borrower 2", "pass 1", "box 3", "put 4", "look 3", "likeBox 2", "append 1", "read 0",
        "faultPosition 0", "failed 0", "refusal 0", "count 1", "undo 0", "save 0", "restore 0"};
    private static final String[] CONSTANTS = {"NONE", "BAD", "STATE", "FULL", "REFUSED", "UNLIKE", "NOTHING"};
    private static final String[] FORBIDDEN = {
        "import ", "package ", "throw", "catch", "finally", "synchronized", "assert", "->", "::", "Exact", "Float.",
        "Double.", "record ", " instanceof ", "System.out", "hashCode", "toString", "equals("};

    public static void main(String[] args) throws Exception {
        constants();
        constructor();
        methods();
        noOtherMember();
        noMethodInsideBearsAPublicName();
        source(Files.readString(Path.of(args[0])));
        CHECKS.finish();
    }

    private static void constants() throws Exception {
        for (int i = 0; i < CONSTANTS.length; i++) {
            Field field = OrchestraLibrary.class.getField(CONSTANTS[i]);
            CHECKS.due(CONSTANTS[i], field.getInt(null), -1 - i);
            CHECKS.holds(CONSTANTS[i] + " is constant", Modifier.isFinal(field.getModifiers()));
        }
    }

    private static void constructor() {
        Constructor<?>[] constructors = OrchestraLibrary.class.getDeclaredConstructors();
        CHECKS.due("constructors", constructors.length, 1);
        CHECKS.due("its parameters", constructors[0].getParameterCount(), 0);
        CHECKS.holds("it is public", Modifier.isPublic(constructors[0].getModifiers()));
        CHECKS.holds("the class is public", Modifier.isPublic(OrchestraLibrary.class.getModifiers()));
        CHECKS.holds("the class is final", Modifier.isFinal(OrchestraLibrary.class.getModifiers()));
    }

    private static void methods() throws Exception {
        for (String method : METHODS) {
            String[] parts = method.split(" ");
            Class<?>[] parameters = new Class<?>[Integer.parseInt(parts[1])];
            java.util.Arrays.fill(parameters, int.class);
            Method found = OrchestraLibrary.class.getDeclaredMethod(parts[0], parameters);
            CHECKS.holds(method + " is public", Modifier.isPublic(found.getModifiers()));
            CHECKS.holds(method + " returns an int", found.getReturnType() == int.class);
        }
    }

    private static void noOtherMember() {
        int methods = 0;
        for (Method method : OrchestraLibrary.class.getDeclaredMethods()) {
            boolean isPrivate = Modifier.isPrivate(method.getModifiers());
            methods += isPrivate ? 0 : 1;
        }
        CHECKS.due("methods that are not private", methods, METHODS.length);
        int fields = 0;
        for (Field field : OrchestraLibrary.class.getDeclaredFields()) {
            fields += Modifier.isPrivate(field.getModifiers()) ? 0 : 1;
            boolean isConstant = Modifier.isStatic(field.getModifiers());
            CHECKS.holds(field + " is no static state", !isConstant || Modifier.isFinal(field.getModifiers()));
        }
        CHECKS.due("fields that are not private", fields, CONSTANTS.length);
    }

    private static void noMethodInsideBearsAPublicName() {
        Set<String> names = new HashSet<>();
        for (String method : METHODS) {
            names.add(method.split(" ")[0]);
        }
        Class<?>[] inside = OrchestraLibrary.class.getDeclaredClasses();
        CHECKS.holds("at most some twelve classes", inside.length < 12);
        for (Class<?> type : inside) {
            CHECKS.holds(type + " is static", Modifier.isStatic(type.getModifiers()));
            for (Method method : type.getDeclaredMethods()) {
                CHECKS.holds(method + " has a name of its own", !names.contains(method.getName()));
            }
        }
        for (Method method : OrchestraLibrary.class.getDeclaredMethods()) {
            boolean isPrivate = Modifier.isPrivate(method.getModifiers());
            CHECKS.holds(method + " has a name of its own", !isPrivate || !names.contains(method.getName()));
        }
    }

    private static void source(String text) {
        for (String word : FORBIDDEN) {
            CHECKS.holds("no " + word + " in the source", !text.contains(word));
        }
        CHECKS.holds("only signs from 10 to 126", text.chars().allMatch(c -> c == 10 || c >= 32 && c <= 126));
    }
}
