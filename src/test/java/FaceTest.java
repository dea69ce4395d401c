import java.lang.reflect.Constructor;
import java.lang.reflect.Method;
import java.lang.reflect.Modifier;
import java.util.ArrayList;
import java.util.List;
import java.util.TreeSet;

/** The class has the document's face, with the exceptions that it names, and nothing else beside it. */
public final class FaceTest {
    private static final String A = " throws IllegalArgumentException";
    private static final String B = " throws IndexOutOfBoundsException";
    private static final String S = " throws IllegalStateException";
    private static final String AS = A + " IllegalStateException";
    private static final String BS = B + " IllegalStateException";
    private static final String BA = B + " IllegalArgumentException";
    private static final String BAS = BA + " IllegalStateException";

    private static final List<String> FACE = List.of(
            "int open(int int)" + AS, "int write(int int)" + AS, "int close()" + S, "boolean remove(int)" + B,
            "boolean setMute(int boolean)" + A, "int setAlias(int int)" + A, "int setWeight(int int)" + A,
            "int documents()", "int stateOf(int)" + B, "int termAt(int int int)" + B, "int flush()",
            "int compact()", "int segments()", "int tierOf(int)" + B, "int sizeOf(int)" + B,
            "int spread(int int)" + A, "int rare(int int)" + A, "int term(int int)" + AS, "int and(int int)" + BS,
            "int or(int int)" + BS, "int not(int int)" + BS, "int near(int int int boolean)" + BAS,
            "int dated(int int)" + AS, "int kind(int)" + AS, "int scaled(int int)" + BAS,
            "int most(int int int)" + BAS, "int clear()", "int nodes()", "int score(int int)" + B,
            "int found(int)" + B, "int search(int)" + B, "int results()", "int resultAt(int)" + B,
            "int scoreAt(int)" + B, "int ofKind(int)" + A, "int ofDates(int int)" + A,
            "int window(int int int int)" + BA, "int like(int)" + B, "int mate(int)" + A, "int cost(int)" + B,
            "int byAlias(int)" + B, "int wouldScore(int int)" + B, "double waste()", "long digest()");

    private FaceTest() {
    }

    public static void main(String[] args) {
        Check check = new Check("FaceTest");
        Class<?> face = QuarryIndex.class;
        check.same("public and final", Modifier.toString(face.getModifiers()), "public final");
        TreeSet<String> told = new TreeSet<>();
        TreeSet<String> names = new TreeSet<>();
        for (Method method : face.getDeclaredMethods()) {
            if (!Modifier.isPrivate(method.getModifiers())) {
                check.same(method + " is public alone", Modifier.toString(method.getModifiers()), "public");
                told.add(signature(method));
                names.add(method.getName());
            }
        }
        check.same("methods", told, new TreeSet<>(FACE));
        check.same("how many", told.size(), 44);
        Constructor<?>[] constructors = face.getDeclaredConstructors();
        check.same("constructors", constructors.length, 1);
        check.same("the constructor", constructors[0].toString(), "public QuarryIndex()");
        checkFieldsAndClasses(check, face, names);
        check.end();
    }

    private static void checkFieldsAndClasses(Check check, Class<?> face, TreeSet<String> names) {
        List<Class<?>> all = new ArrayList<>(List.of(face.getDeclaredClasses()));
        for (Class<?> inside : all) {
            int modifiers = inside.getModifiers();
            check.same(inside + " is static", Modifier.isStatic(modifiers), true);
            check.same(inside + " is hidden", Modifier.isPublic(modifiers) || Modifier.isProtected(modifiers), false);
        }
        all.add(face);
        check.same("at most twelve classes", all.size() <= 12, true);
        for (Class<?> one : all) {
            for (Method method : one.getDeclaredMethods()) {
                boolean isHidden = Modifier.isPrivate(method.getModifiers()) || one != face;
                check.same(method + " has no public one's name", isHidden && names.contains(method.getName()), false);
                check.same(method + " takes few", method.getParameterCount() <= 7, true);
            }
            for (var field : one.getDeclaredFields()) {
                int modifiers = field.getModifiers();
                check.same(field + " is private", Modifier.isPrivate(modifiers) || one != face, true);
                check.same(field + " is no static state",
                        Modifier.isStatic(modifiers) && !Modifier.isFinal(modifiers), false);
            }
        }
    }

    private static String signature(Method method) {
        StringBuilder told = new StringBuilder();
        told.append(method.getReturnType()).append(' ').append(method.getName()).append('(');
        String gap = "";
        for (Class<?> type : method.getParameterTypes()) {
            told.append(gap).append(type);
            gap = " ";
        }
        told.append(')');
        gap = " throws ";
        for (Class<?> type : method.getExceptionTypes()) {
            told.append(gap).append(type.getSimpleName());
            gap = " ";
        }
        return told.toString();
    }
}
