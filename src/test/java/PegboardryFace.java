import java.lang.reflect.Constructor;
import java.lang.reflect.Field;
import java.lang.reflect.Method;
import java.lang.reflect.Modifier;
import java.util.Arrays;
import java.util.Set;
import java.util.TreeSet;
import java.util.stream.Collectors;

/** The class shows the document's face, with its exceptions in their order, and no other member. */
public final class PegboardryFace {
    private static final String[] FACE = {
        "int puzzle() IllegalStateException",
        "int give(int int int) IndexOutOfBoundsException IllegalArgumentException",
        "int addCage(int int int) IndexOutOfBoundsException IllegalArgumentException UnsupportedOperationException",
        "int make(int int) IllegalArgumentException IllegalStateException",
        "int given(int int) IndexOutOfBoundsException",
        "int givens(int) IndexOutOfBoundsException",
        "int solutions(int) IndexOutOfBoundsException",
        "int solution(int int) IndexOutOfBoundsException NoSuchElementException",
        "char solve(int) IndexOutOfBoundsException",
        "int steps(int) IndexOutOfBoundsException",
        "int stepAt(int int) IndexOutOfBoundsException NoSuchElementException",
        "int grade(int) IndexOutOfBoundsException UnsupportedOperationException",
        "boolean isMinimal(int) IndexOutOfBoundsException",
        "boolean areAlike(int int) IndexOutOfBoundsException UnsupportedOperationException",
        "int begin(int) IndexOutOfBoundsException",
        "int tell(int int int) IndexOutOfBoundsException IllegalArgumentException IllegalStateException"
            + " UnsupportedOperationException",
        "int reason()",
        "int candidates(int) IndexOutOfBoundsException IllegalStateException",
        "boolean isWhole() IllegalStateException",
        "int mark(int int int) IndexOutOfBoundsException IllegalArgumentException",
        "int marked(int int) IndexOutOfBoundsException",
        "int wrong(int) IndexOutOfBoundsException NoSuchElementException",
        "int hint(int) IndexOutOfBoundsException UnsupportedOperationException NoSuchElementException",
        "long checksum()",
        "float solvedShare() ArithmeticException",
        "double meanGivens() ArithmeticException",
        "boolean isSound()",
    };

    public static void main(String[] args) {
        Set<String> wrong = new TreeSet<>();
        Set<String> due = new TreeSet<>(Arrays.asList(FACE));
        Set<String> publicNames = new TreeSet<>();
        for (Method method : Pegboardry.class.getDeclaredMethods()) {
            if (!Modifier.isPrivate(method.getModifiers())) {
                publicNames.add(method.getName());
                if (!Modifier.isPublic(method.getModifiers()) || !due.remove(written(method))) {
                    wrong.add("not of the face: " + written(method));
                }
            }
        }
        due.forEach(line -> wrong.add("missing: " + line));
        for (Method method : Pegboardry.class.getDeclaredMethods()) {
            if (Modifier.isPrivate(method.getModifiers()) && publicNames.contains(method.getName())) {
                wrong.add("private, with the name of a public one: " + method.getName());
            }
        }
        for (Field field : Pegboardry.class.getDeclaredFields()) {
            if (!Modifier.isPrivate(field.getModifiers())) {
                wrong.add("not private: " + field.getName());
            }
        }
        Constructor<?>[] constructors = Pegboardry.class.getDeclaredConstructors();
        if (constructors.length != 1 || !Modifier.isPublic(constructors[0].getModifiers())
                || constructors[0].getParameterCount() != 0) {
            wrong.add("not just the one constructor");
        }
        if (!Modifier.isPublic(Pegboardry.class.getModifiers()) || !Modifier.isFinal(Pegboardry.class.getModifiers())) {
            wrong.add("the class is not public and final");
        }
        wrong.forEach(System.out::println);
        System.out.println(wrong.isEmpty() ? "the face is the document's" : wrong.size() + " members are wrong");
        if (!wrong.isEmpty()) {
            System.exit(1);
        }
    }

    private static String written(Method method) {
        String parameters = Arrays.stream(method.getParameterTypes()).map(Class::getSimpleName)
                .collect(Collectors.joining(" "));
        String thrown = Arrays.stream(method.getExceptionTypes()).map(type -> " " + type.getSimpleName())
                .collect(Collectors.joining());
        return method.getReturnType().getSimpleName() + " " + method.getName() + "(" + parameters + ")" + thrown;
    }
}
