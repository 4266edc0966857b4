import java.lang.reflect.Constructor;
import java.lang.reflect.Field;
import java.lang.reflect.Method;
import java.lang.reflect.Modifier;
import java.util.Arrays;
import java.util.Set;
import java.util.TreeSet;

/** Tests that the class shows the document's face, and nothing besides. */
public final class FaceTests {
    private static final String INDEX = "IndexOutOfBoundsException";
    private static final String ARGUMENT = "IllegalArgumentException";
    private static final String STATE = "IllegalStateException";

    private static final String[] FACE = {
        "int strike(int, int) " + INDEX + " " + ARGUMENT + " " + STATE,
        "int melt(int, int) " + INDEX + " " + ARGUMENT + " " + STATE,
        "int meltStale()",
        "int dropDie(int) " + INDEX + " " + STATE,
        "int dropIrregular() " + STATE,
        "int type(char) " + STATE,
        "int clearText()",
        "int textError()",
        "int impossibleOrder() " + STATE,
        "int carryOut() " + STATE,
        "int undo() " + STATE,
        "int takeSnapshot()",
        "int restoreSnapshot() " + STATE,
        "int nouns()",
        "int lettersOf(int) " + INDEX,
        "int pluralLetters(int) " + INDEX,
        "char pluralLetter(int, int) " + INDEX,
        "char countedLetter(int, int, int) " + INDEX + " " + ARGUMENT,
        "boolean isIrregular(int) " + INDEX,
        "int dieFor(int) " + INDEX,
        "int ambiguousNouns()",
        "int recallByStriking() " + STATE,
        "int recallByReversing() " + STATE,
        "int possibleNouns() " + STATE,
        "int dies()",
        "int irregulars()",
        "int fitsOf(int) " + INDEX,
        "int coinsOf(int) " + INDEX,
        "int heaps()",
        "int staleCoins()",
        "int coinsByHeaps()",
        "int coinsByAccounts()",
        "int recordedStates()",
    };

    public static void main(String[] args) {
        Set<String> wrong = new TreeSet<>();
        Set<String> missing = new TreeSet<>(Arrays.asList(FACE));
        Set<String> names = new TreeSet<>();
        for (Method method : PluralMint.class.getDeclaredMethods()) {
            if (!Modifier.isPrivate(method.getModifiers())) {
                names.add(method.getName());
                if (!missing.remove(told(method)) || method.getModifiers() != Modifier.PUBLIC) {
                    wrong.add("not in the face: " + told(method));
                }
            }
        }
        for (String method : missing) {
            wrong.add("missing: " + method);
        }
        checkFields(wrong);
        checkConstructors(wrong);
        checkClass(wrong, names);
        wrong.forEach(System.out::println);
        System.out.println(wrong.size() + " wrong in the face");
        if (!wrong.isEmpty()) {
            System.exit(1);
        }
    }

    private static String told(Method method) {
        StringBuilder line = new StringBuilder();
        line.append(method.getReturnType().getSimpleName()).append(' ').append(method.getName()).append('(');
        String comma = "";
        for (Class<?> type : method.getParameterTypes()) {
            line.append(comma).append(type.getSimpleName());
            comma = ", ";
        }
        line.append(')');
        for (Class<?> type : method.getExceptionTypes()) {
            line.append(' ').append(type.getSimpleName());
        }
        return line.toString();
    }

    private static void checkFields(Set<String> wrong) {
        boolean hasNone = false;
        for (Field field : PluralMint.class.getDeclaredFields()) {
            int shown = field.getModifiers();
            if (field.getName().equals("NONE") && field.getType() == int.class
                    && shown == (Modifier.PUBLIC | Modifier.STATIC | Modifier.FINAL)) {
                hasNone = true;
            } else if (!Modifier.isPrivate(shown)) {
                wrong.add("not in the face: " + field);
            }
        }
        if (!hasNone) {
            wrong.add("missing: NONE");
        }
    }

    private static void checkConstructors(Set<String> wrong) {
        Constructor<?>[] all = PluralMint.class.getDeclaredConstructors();
        if (all.length != 1 || all[0].getModifiers() != Modifier.PUBLIC || all[0].getParameterCount() != 0) {
            wrong.add("one public constructor without parameters is due");
        }
    }

    private static void checkClass(Set<String> wrong, Set<String> names) {
        if (PluralMint.class.getModifiers() != (Modifier.PUBLIC | Modifier.FINAL)) {
            wrong.add("the class is not public and final");
        }
        for (Class<?> inside : PluralMint.class.getDeclaredClasses()) {
            if (!Modifier.isStatic(inside.getModifiers()) || Modifier.isPublic(inside.getModifiers())) {
                wrong.add("a class inside is not static, or is public: " + inside);
            }
            for (Method method : inside.getDeclaredMethods()) {
                if (names.contains(method.getName())) {
                    wrong.add("a method inside bears a name of the face: " + method);
                }
            }
        }
    }
}
