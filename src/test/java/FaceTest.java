import java.lang.reflect.Constructor;
import java.lang.reflect.Field;
import java.lang.reflect.Method;
import java.lang.reflect.Modifier;
import java.util.List;
import java.util.Set;
import java.util.TreeSet;

/** The public face: just what the document lists, and nothing else that can be seen from outside. */
public final class FaceTest {
    private static final List<String> FACE = List.of(
            "int word(int) IllegalArgumentException IllegalStateException",
            "int number(int) IllegalArgumentException IllegalStateException",
            "int tag(int) IllegalArgumentException IllegalStateException",
            "int mark(char) IllegalArgumentException IllegalStateException",
            "int clear()",
            "int setWeights(int,int,int,int) IllegalArgumentException",
            "boolean addAbbreviation(int) IllegalArgumentException",
            "int addTerm(int,int) IllegalArgumentException UnsupportedOperationException"
                    + " IllegalStateException",
            "int takeSource() IllegalStateException",
            "int addUnit() NoSuchElementException IllegalStateException",
            "int correct(int) NoSuchElementException UnsupportedOperationException"
                    + " IllegalStateException",
            "int withdraw(int) NoSuchElementException UnsupportedOperationException",
            "int units()",
            "boolean isLive(int) NoSuchElementException",
            "int cost(int) NoSuchElementException IllegalStateException",
            "int costFromEnds(int) NoSuchElementException IllegalStateException",
            "int likeness(int) NoSuchElementException IllegalStateException",
            "int missing(int) NoSuchElementException IllegalStateException",
            "int score(int) NoSuchElementException IllegalStateException",
            "int sharedPairs(int) NoSuchElementException IllegalStateException",
            "int best() IllegalStateException NoSuchElementException",
            "int bestOfAll() IllegalStateException NoSuchElementException",
            "int open() IllegalStateException",
            "int segments()",
            "int fill(int) IllegalArgumentException",
            "int answer(int) IndexOutOfBoundsException IllegalStateException",
            "char stateOf(int) IndexOutOfBoundsException",
            "int unitOf(int) IndexOutOfBoundsException NoSuchElementException",
            "int scoreOf(int) IndexOutOfBoundsException NoSuchElementException",
            "int segmentLength(int) IndexOutOfBoundsException",
            "int segmentToken(int,int) IndexOutOfBoundsException",
            "int targetLength(int) IndexOutOfBoundsException NoSuchElementException",
            "int targetToken(int,int) IndexOutOfBoundsException NoSuchElementException",
            "char targetKind(int,int) IndexOutOfBoundsException NoSuchElementException",
            "int repeats()",
            "long openWeight()",
            "float filledShare() ArithmeticException",
            "double meanLikeness() IllegalStateException ArithmeticException",
            "boolean isSound()");

    public static void main(String[] args) {
        Class<?> face = Fuzzyseg.class;
        Check.same("public and final", Modifier.PUBLIC | Modifier.FINAL, face.getModifiers());
        Check.same("the methods", new TreeSet<>(FACE), publicMethods(face));
        Check.same("the constructors", 1, face.getDeclaredConstructors().length);
        for (Constructor<?> made : face.getDeclaredConstructors()) {
            Check.same("the constructor", "public Fuzzyseg()", made.toString());
        }
        for (Field field : face.getDeclaredFields()) {
            Check.same("private: " + field, true, Modifier.isPrivate(field.getModifiers()));
        }
        for (Class<?> inside : face.getDeclaredClasses()) {
            Check.same("static: " + inside, true, Modifier.isStatic(inside.getModifiers()));
            privateNames(inside);
        }
        Check.end();
    }

    private static Set<String> publicMethods(Class<?> face) {
        Set<String> names = new TreeSet<>();
        Set<String> hidden = new TreeSet<>();
        for (Method method : face.getDeclaredMethods()) {
            if (Modifier.isPrivate(method.getModifiers())) {
                hidden.add(method.getName());
            } else {
                names.add(signature(method));
                Check.same("public, not static: " + method, Modifier.PUBLIC, method.getModifiers());
            }
        }
        for (String name : hidden) {
            Check.same("the name is not a public one: " + name, false, isPublicName(name));
        }
        return names;
    }

    private static void privateNames(Class<?> inside) {
        for (Method method : inside.getDeclaredMethods()) {
            Check.same("the name is not a public one: " + method, false, isPublicName(method.getName()));
        }
    }

    private static boolean isPublicName(String name) {
        for (String method : FACE) {
            if (method.contains(" " + name + "(")) {
                return true;
            }
        }
        return false;
    }

    private static String signature(Method method) {
        StringBuilder text = new StringBuilder();
        text.append(method.getReturnType()).append(' ').append(method.getName()).append('(');
        for (Class<?> type : method.getParameterTypes()) {
            text.append(text.charAt(text.length() - 1) == '(' ? "" : ",").append(type);
        }
        text.append(')');
        for (Class<?> type : method.getExceptionTypes()) {
            text.append(' ').append(type.getSimpleName());
        }
        return text.toString();
    }
}
