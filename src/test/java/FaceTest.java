import java.lang.reflect.Constructor;
import java.lang.reflect.Field;
import java.lang.reflect.Method;
import java.lang.reflect.Modifier;
import java.util.Arrays;
import java.util.Set;
import java.util.TreeSet;

/** The class has the document's face and no other member that can be seen from outside. */
public final class FaceTest {
    private static final Set<String> FACE = new TreeSet<>(Arrays.asList(
            "int pattern(int, int, int) throws IllegalArgumentException, IllegalStateException",
            "int define(int, int) throws IllegalArgumentException, NoSuchElementException, UnsupportedOperationException",
            "int open(int) throws IllegalArgumentException, IllegalStateException",
            "int attribute(int, int) throws IllegalArgumentException, IllegalStateException",
            "int text(int) throws IllegalStateException",
            "int close() throws IllegalStateException",
            "int clear()",
            "int matches(int, int) throws NoSuchElementException",
            "int content(int, int) throws NoSuchElementException",
            "int longest(int, int) throws NoSuchElementException, UnsupportedOperationException",
            "int find(int) throws NoSuchElementException, UnsupportedOperationException",
            "int nullable(int) throws NoSuchElementException",
            "int count(int) throws IllegalArgumentException"));

    private FaceTest() {
    }

    public static void main(String[] args) {
        Check check = new Check();
        Class<?> face = PatternValidator.class;
        check.holds("the class is public and final",
                Modifier.isPublic(face.getModifiers()) && Modifier.isFinal(face.getModifiers()));
        check.holds("the methods are those of the document", publicMethods(face).equals(FACE));
        check.holds("there is one constructor", face.getDeclaredConstructors().length == 1);
        for (Constructor<?> made : face.getDeclaredConstructors()) {
            check.holds("it is public and takes nothing",
                    Modifier.isPublic(made.getModifiers()) && made.getParameterCount() == 0);
        }
        for (Method method : face.getDeclaredMethods()) {
            check.holds(method + " is public or private", isPublicOrPrivate(method.getModifiers()));
        }
        checkFields(check, face);
        for (Class<?> inside : face.getDeclaredClasses()) {
            check.holds(inside + " is static", Modifier.isStatic(inside.getModifiers()));
            check.holds(inside + " is not to be seen", !Modifier.isPublic(inside.getModifiers()));
            checkStaticFields(check, inside);
            checkPrivateNames(check, inside, face);
        }
        checkPrivateNames(check, face, face);
        check.end();
    }

    private static void checkFields(Check check, Class<?> face) {
        checkStaticFields(check, face);
        for (Field field : face.getDeclaredFields()) {
            check.holds(field + " is private", Modifier.isPrivate(field.getModifiers()));
        }
    }

    private static void checkStaticFields(Check check, Class<?> holder) {
        for (Field field : holder.getDeclaredFields()) {
            if (Modifier.isStatic(field.getModifiers())) {
                check.holds(field + " is final", Modifier.isFinal(field.getModifiers()));
            }
        }
    }

    /** No private method bears the name of a public one. */
    private static void checkPrivateNames(Check check, Class<?> holder, Class<?> face) {
        for (Method method : holder.getDeclaredMethods()) {
            if (Modifier.isPrivate(method.getModifiers())) {
                for (Method other : face.getMethods()) {
                    check.holds(method + " has a name of its own", !method.getName().equals(other.getName()));
                }
            }
        }
    }

    private static boolean isPublicOrPrivate(int modifiers) {
        return Modifier.isPublic(modifiers) || Modifier.isPrivate(modifiers);
    }

    private static Set<String> publicMethods(Class<?> face) {
        Set<String> all = new TreeSet<>();
        for (Method method : face.getDeclaredMethods()) {
            if (Modifier.isPublic(method.getModifiers())) {
                all.add(told(method));
            }
        }
        return all;
    }

    private static String told(Method method) {
        String thrown = names(method.getExceptionTypes());
        return method.getReturnType().getSimpleName() + " " + method.getName()
                + "(" + names(method.getParameterTypes()) + ")"
                + (thrown.isEmpty() ? "" : " throws " + thrown);
    }

    private static String names(Class<?>[] types) {
        StringBuilder all = new StringBuilder();
        for (Class<?> type : types) {
            all.append(all.length() == 0 ? "" : ", ").append(type.getSimpleName());
        }
        return all.toString();
    }
}
