/** Promise 6: out. */
public final class Promise06OutTest {
    private static final Checks CHECKS = new Checks();

    public static void main(String[] args) {
        LeavingMachine machine = CHECKS.dueRun("M{!10;!0-20;!30;}", 3000, 0, 10, -20, 30);
        dueNone(machine, -1, 3, 24, Integer.MIN_VALUE, Integer.MAX_VALUE);
        CHECKS.due("out(2) after what was refused", machine.out(2), 30);
        CHECKS.due("run(1)", machine.run(1), 1);
        CHECKS.due("out(0) of a shorter run", machine.out(0), 10);
        dueNone(machine, 1, 2);
        CHECKS.due("run(0)", machine.run(0), 1);
        dueNone(machine, 0);
        CHECKS.due("run(3)", machine.run(3), 0);
        CHECKS.due("compile", machine.compile(), 0);
        dueNone(machine, 0);
        dueNone(new LeavingMachine(), 0, 1, -1);
        LeavingMachine full = CHECKS.dueTrap("M{@1{!5;}}", 7, 5, 5, 5, 5, 5, 5, 5, 5, 5, 5, 5, 5, 5, 5, 5, 5, 5, 5, 5, 5,
            5, 5, 5, 5);
        dueNone(full, 24, 25);
        CHECKS.end();
    }

    private static void dueNone(LeavingMachine machine, int... places) {
        for (int i : places) {
            CHECKS.dueThrow("out(" + i + ")", IndexOutOfBoundsException.class, () -> machine.out(i));
        }
    }
}
