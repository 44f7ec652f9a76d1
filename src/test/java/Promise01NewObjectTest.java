import java.lang.reflect.Member;
import java.lang.reflect.Modifier;
import java.util.Arrays;
import java.util.List;
import java.util.Set;
import java.util.TreeSet;

/** Promise 1: a new object has no text and no program; and the class has the document's face and no more. */
public final class Promise01NewObjectTest {
    private static final Checks CHECKS = new Checks();

    public static void main(String[] args) {
        knowsNothing();
        objectsAreApart();
        hasTheFaceAlone();
        CHECKS.end();
    }

    private static void knowsNothing() {
        int[] looks = {0, 0, 0, 0, LeavingMachine.NONE, 0, 0, 0};
        LeavingMachine machine = new LeavingMachine();
        for (int which = 0; which < looks.length; which++) {
            CHECKS.due("look(" + which + ") of a new object", machine.look(which), looks[which]);
        }
        for (int k = 0; k < 8; k++) {
            CHECKS.due("variable of a new object", machine.variable(k), 0);
        }
        CHECKS.dueThrow("run of a new object", IllegalStateException.class, () -> machine.run(1));
        CHECKS.dueThrow("out of a new object", IndexOutOfBoundsException.class, () -> machine.out(0));
        CHECKS.dueThrow("raised of a new object", IllegalStateException.class, () -> machine.raised(true));
        CHECKS.dueThrow("raises of a new object", IllegalArgumentException.class, () -> machine.raises(0));
        CHECKS.due("compile of a new object", machine.compile(), 1);
    }

    private static void objectsAreApart() {
        LeavingMachine one = CHECKS.dueRun("Dp{!7;}M{a=5;Pp;}", 10, 0, 7);
        LeavingMachine two = new LeavingMachine();
        CHECKS.due("look(0) of another object", two.look(0), 0);
        CHECKS.due("look(1) of another object", two.look(1), 0);
        CHECKS.due("compile of another object", two.compile(), 1);
        CHECKS.due("look(0) of the first object", one.look(0), 17);
        CHECKS.due("variable of the first object", one.variable(0), 5);
        CHECKS.due("out of the first object", one.out(0), 7);
    }

    private static void hasTheFaceAlone() {
        Class<?> machine = LeavingMachine.class;
        CHECKS.due("NONE", LeavingMachine.NONE, -1);
        CHECKS.due("public final class", machine.getModifiers() & (Modifier.PUBLIC | Modifier.FINAL),
            Modifier.PUBLIC | Modifier.FINAL);
        Set<String> want = new TreeSet<>(List.of("NONE", "LeavingMachine", "type", "wipe", "compile", "run", "out",
            "variable", "raised", "raises", "look"));
        Set<String> got = new TreeSet<>();
        addSeen(got, machine.getDeclaredFields());
        addSeen(got, machine.getDeclaredConstructors());
        addSeen(got, machine.getDeclaredMethods());
        if (!got.equals(want)) {
            CHECKS.due("the face is " + got + ", due is " + want + ": as due", 0, 1);
        }
    }

    private static void addSeen(Set<String> names, Member[] members) {
        Arrays.stream(members)
            .filter(member -> !member.isSynthetic() && !Modifier.isPrivate(member.getModifiers()))
            .forEach(member -> names.add(member.getName()));
    }
}
