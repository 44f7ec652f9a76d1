/** Promise 1: a new object has no text and no program. */
public final class Promise01NewObjectTest {
    private static final Checks CHECKS = new Checks();

    public static void main(String[] args) {
        knowsNothing();
        objectsAreApart();
        CHECKS.end();
    }

    private static void knowsNothing() {
        int[] looks = {0, 0, 0, 0, LeavingMachine.NONE, 0, 0, 0};
        LeavingMachine machine = new LeavingMachine();
        for (int which = 0; which < looks.length; which++) {
            CHECKS.due("look(" + which + ") of a new object", machine.look(which), looks[which]);
        }
        for (int k = 0; k < 8; k++) {
            CHECKS.due("variable of a new object", machine.variable(k), 0);
        }
        CHECKS.dueThrow("run of a new object", IllegalStateException.class, () -> machine.run(1));
        CHECKS.dueThrow("out of a new object", IndexOutOfBoundsException.class, () -> machine.out(0));
        CHECKS.dueThrow("raised of a new object", IllegalStateException.class, () -> machine.raised(true));
        CHECKS.dueThrow("raises of a new object", IllegalArgumentException.class, () -> machine.raises(0));
        CHECKS.due("compile of a new object", machine.compile(), 1);
    }

    private static void objectsAreApart() {
        LeavingMachine one = CHECKS.dueRun("Dp{!7;}M{a=5;Pp;}", 10, 0, 7);
        LeavingMachine two = new LeavingMachine();
        CHECKS.due("look(0) of another object", two.look(0), 0);
        CHECKS.due("look(1) of another object", two.look(1), 0);
        CHECKS.due("compile of another object", two.compile(), 1);
        CHECKS.due("look(0) of the first object", one.look(0), 17);
        CHECKS.due("variable of the first object", one.variable(0), 5);
        CHECKS.due("out of the first object", one.out(0), 7);
    }
}
