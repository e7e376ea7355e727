import java.lang.reflect.Constructor;
import java.lang.reflect.Field;
import java.lang.reflect.Method;
import java.lang.reflect.Modifier;
import java.util.Arrays;
import java.util.List;
import java.util.TreeSet;
import java.util.stream.Collectors;

/** The class has the document's face and shows nothing else, by rule 1 of LANGUAGE.md. */
final class FaceTest {
    private static final List<String> METHODS = List.of(
            "about(int,int) IllegalArgumentException",
            "act(int,int,int,int) IllegalArgumentException,IllegalStateException",
            "cancel(int) IllegalArgumentException",
            "cause(int) IllegalArgumentException,NoSuchElementException",
            "count(int) ",
            "noted(int) NoSuchElementException",
            "result(int) IllegalArgumentException,IllegalStateException,ArithmeticException,NoSuchElementException",
            "run(int) IllegalArgumentException",
            "start(int) IllegalArgumentException,IllegalStateException",
            "state(int) IllegalArgumentException");

    private static String names(Class<?>[] types) {
        return Arrays.stream(types).map(Class::getSimpleName).collect(Collectors.joining(","));
    }

    private static void methods() {
        TreeSet<String> shown = new TreeSet<>();
        TreeSet<String> publicNames = new TreeSet<>();
        for (Method method : JobRuntime.class.getDeclaredMethods()) {
            if (!Modifier.isPrivate(method.getModifiers())) {
                shown.add(method.getName() + "(" + names(method.getParameterTypes()) + ") " + names(method.getExceptionTypes()));
                publicNames.add(method.getName());
                Rig.check(method + " is not as the face has it",
                        Modifier.isPublic(method.getModifiers()) && !Modifier.isStatic(method.getModifiers())
                                && method.getReturnType() == int.class);
            }
        }
        Rig.check("the methods shown are " + shown, shown.equals(new TreeSet<>(METHODS)));
        for (Method method : JobRuntime.class.getDeclaredMethods()) {
            if (Modifier.isPrivate(method.getModifiers())) {
                Rig.check(method + " bears the name of a public one", !publicNames.contains(method.getName()));
                Rig.check(method + " takes more than seven", method.getParameterCount() <= 7);
            }
        }
    }

    private static void members() {
        Rig.check("the class is public and final",
                Modifier.isPublic(JobRuntime.class.getModifiers()) && Modifier.isFinal(JobRuntime.class.getModifiers()));
        Constructor<?>[] constructors = JobRuntime.class.getDeclaredConstructors();
        Rig.check("one constructor, public, of nothing", constructors.length == 1
                && Modifier.isPublic(constructors[0].getModifiers()) && constructors[0].getParameterCount() == 0);
        for (Field field : JobRuntime.class.getDeclaredFields()) {
            Rig.check(field + " is not private", Modifier.isPrivate(field.getModifiers()));
            Rig.check(field + " is static and not final",
                    !Modifier.isStatic(field.getModifiers()) || Modifier.isFinal(field.getModifiers()));
        }
        for (Class<?> inner : JobRuntime.class.getDeclaredClasses()) {
            Rig.check(inner + " is not static, or shown", Modifier.isStatic(inner.getModifiers())
                    && !Modifier.isPublic(inner.getModifiers()) && !Modifier.isProtected(inner.getModifiers()));
        }
    }

    public static void main(String[] args) {
        methods();
        members();
        Rig.end();
    }
}
