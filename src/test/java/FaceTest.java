import java.lang.reflect.Constructor;
import java.lang.reflect.Field;
import java.lang.reflect.Method;
import java.lang.reflect.Modifier;
import java.util.Arrays;
import java.util.Collections;
import java.util.TreeSet;

/** The face of the class is that of the document, and nothing else of it can be seen. */
public final class FaceTest {

    private static final String[] FACE = {
        "int feed(int,int,int,int,int) throws IllegalStateException",
        "int trim(int) throws IllegalArgumentException",
        "int teach()",
        "int errorAt()",
        "int length()",
        "int insults()",
        "int day()",
        "int ordersCarriedOut()",
        "int kinds()",
        "int letterAt(int) throws IndexOutOfBoundsException",
        "int rankOf(int) throws IndexOutOfBoundsException",
        "int placeAt(int) throws IndexOutOfBoundsException",
        "int sharedAt(int) throws IndexOutOfBoundsException",
        "int shared(int,int) throws IndexOutOfBoundsException",
        "boolean isAhead(int,int) throws IndexOutOfBoundsException",
        "int longestRepeat()",
        "int repeatPlace()",
        "int repeatCount()",
        "int kindsOf(int) throws IllegalArgumentException",
        "int repeatedOf(int) throws IllegalArgumentException",
        "int mockedAtEnd()",
        "int lettersOf(int) throws IndexOutOfBoundsException",
        "int countOf(int) throws IndexOutOfBoundsException",
        "int firstOf(int) throws IndexOutOfBoundsException",
        "int lastOf(int) throws IndexOutOfBoundsException",
        "int stepsTo(int) throws IndexOutOfBoundsException",
        "int mostSaid()",
        "int hear(int) throws IllegalArgumentException",
        "int mock(int) throws IndexOutOfBoundsException",
        "int echo(int) throws IllegalArgumentException",
        "int forget(int) throws IllegalArgumentException",
        "int passDays(int) throws IllegalArgumentException",
        "int repeatAfter(int) throws IllegalArgumentException",
        "int daysUntilKnown(int) throws IndexOutOfBoundsException",
        "int bestLetter()",
        "double meanShared()",
        "long digest()",
    };

    private FaceTest() {
    }

    public static void main(String[] args) {
        Class<?> program = ParrotSquawks.class;
        Check.due("the class is public and final", program.getModifiers(),
                Modifier.PUBLIC | Modifier.FINAL);
        methodsAreThoseOfTheDocument(program);
        oneConstructorWithoutArguments(program);
        fieldsAreHidden(program);
        for (Class<?> inside : program.getDeclaredClasses()) {
            int modifiers = inside.getModifiers();
            Check.due(inside + " is not public or protected",
                    modifiers & (Modifier.PUBLIC | Modifier.PROTECTED), 0);
        }
        Check.end();
    }

    private static void methodsAreThoseOfTheDocument(Class<?> program) {
        TreeSet<String> got = new TreeSet<>();
        TreeSet<String> publicNames = new TreeSet<>();
        TreeSet<String> privateNames = new TreeSet<>();
        for (Method method : program.getDeclaredMethods()) {
            if (Modifier.isPrivate(method.getModifiers())) {
                privateNames.add(method.getName());
            } else {
                publicNames.add(method.getName());
                got.add(shown(method));
                Check.due(method + " is public", method.getModifiers(), Modifier.PUBLIC);
            }
        }
        for (String due : FACE) {
            Check.due("the face has " + due, got.remove(due), true);
        }
        Check.due("methods beside the face: " + got, got.size(), 0);
        Check.due("no name is public and private",
                Collections.disjoint(publicNames, privateNames), true);
    }

    private static String shown(Method method) {
        StringBuilder text = new StringBuilder();
        text.append(method.getReturnType()).append(' ').append(method.getName()).append('(');
        text.append(String.join(",", Arrays.stream(method.getParameterTypes())
                .map(Class::getSimpleName).toArray(String[]::new))).append(')');
        for (Class<?> thrown : method.getExceptionTypes()) {
            text.append(" throws ").append(thrown.getSimpleName());
        }
        return text.toString();
    }

    private static void oneConstructorWithoutArguments(Class<?> program) {
        Constructor<?>[] constructors = program.getDeclaredConstructors();
        Check.due("constructors", constructors.length, 1);
        Check.due("arguments of the constructor", constructors[0].getParameterCount(), 0);
        Check.due("the constructor is public", constructors[0].getModifiers(), Modifier.PUBLIC);
    }

    private static void fieldsAreHidden(Class<?> program) {
        for (Field field : program.getDeclaredFields()) {
            Check.due(field + " is private", Modifier.isPrivate(field.getModifiers()), true);
        }
    }
}
