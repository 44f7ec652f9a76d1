import java.lang.reflect.Constructor;
import java.lang.reflect.Field;
import java.lang.reflect.Method;
import java.lang.reflect.Modifier;
import java.util.Arrays;
import java.util.List;
import java.util.TreeSet;
import java.util.stream.Collectors;

/** "The public face": the class has each member that the document writes there, so written, and no more. */
public final class FaceTest {
    private static final Checks CHECKS = new Checks();
    private static final Class<?> MACHINE = LeavingMachine.class;
    private static final List<String> FACE = List.of(
        "public static final int NONE",
        "public LeavingMachine()",
        "public boolean type(long)",
        "public void wipe()",
        "public int compile()",
        "public int run(int) throws IllegalArgumentException, IllegalStateException",
        "public int out(int) throws IndexOutOfBoundsException",
        "public int variable(int) throws IndexOutOfBoundsException",
        "public int raised(boolean) throws IllegalStateException",
        "public int raises(int) throws IllegalArgumentException",
        "public int look(int)");

    public static void main(String[] args) {
        CHECKS.sentence("The public face");
        CHECKS.due("the class", Modifier.toString(MACHINE.getModifiers()) + " class " + MACHINE.getName(),
            "public final class LeavingMachine");
        CHECKS.due("what it extends", MACHINE.getSuperclass().getName(), "java.lang.Object");
        CHECKS.due("how much it implements", MACHINE.getInterfaces().length, 0);
        CHECKS.due("NONE", LeavingMachine.NONE, -1);
        CHECKS.due("the face", String.join("; ", face()), String.join("; ", new TreeSet<>(FACE)));
        classesInsideAreHidden();
        CHECKS.end();
    }

    private static TreeSet<String> face() {
        TreeSet<String> face = new TreeSet<>();
        for (Field field : MACHINE.getDeclaredFields()) {
            if (!field.isSynthetic() && !Modifier.isPrivate(field.getModifiers())) {
                face.add(Modifier.toString(field.getModifiers()) + " " + field.getType().getSimpleName() + " "
                    + field.getName());
            }
        }
        for (Constructor<?> each : MACHINE.getDeclaredConstructors()) {
            if (!each.isSynthetic() && !Modifier.isPrivate(each.getModifiers())) {
                face.add(Modifier.toString(each.getModifiers()) + " " + MACHINE.getName() + "("
                    + names(each.getParameterTypes()) + ")" + thrown(each.getExceptionTypes()));
            }
        }
        for (Method each : MACHINE.getDeclaredMethods()) {
            if (!each.isSynthetic() && !Modifier.isPrivate(each.getModifiers())) {
                face.add(Modifier.toString(each.getModifiers()) + " " + each.getReturnType().getSimpleName() + " "
                    + each.getName() + "(" + names(each.getParameterTypes()) + ")" + thrown(each.getExceptionTypes()));
            }
        }
        return face;
    }

    private static String names(Class<?>[] types) {
        return Arrays.stream(types).map(Class::getSimpleName).collect(Collectors.joining(", "));
    }

    private static String thrown(Class<?>[] types) {
        return types.length == 0 ? "" : " throws " + names(types);
    }

    private static void classesInsideAreHidden() {
        for (Class<?> inside : MACHINE.getDeclaredClasses()) {
            int modifiers = inside.getModifiers();
            CHECKS.due(inside.getSimpleName() + " is static", Modifier.isStatic(modifiers), true);
            CHECKS.due(inside.getSimpleName() + " is public or protected",
                Modifier.isPublic(modifiers) || Modifier.isProtected(modifiers), false);
        }
    }
}
