/** Promise 8: raised. */
public final class Promise08RaisedTest {
    private static final Checks CHECKS = new Checks();

    public static void main(String[] args) {
        dueNothing(new LeavingMachine());
        LeavingMachine machine = CHECKS.dueTrap("M{Y{T04;}K0a{}!1/b;}", 5);
        CHECKS.due("run with less fuel", machine.run(2), 1);
        dueNothing(machine);
        CHECKS.due("run with enough", machine.run(3), 2);
        CHECKS.due("raised(false)", machine.raised(false), 5);
        CHECKS.due("compile", machine.compile(), 0);
        dueNothing(machine);
        dueNothing(CHECKS.dueRun("M{!1;}", 9, 0, 1));
        dueNothing(CHECKS.dueRun("M{Y{T05;}K0a{}}", 9, 0));
        CHECKS.dueTrap("Dp{Pp;}M{Pp;}", 6);
        CHECKS.dueTrap("M{@1{!1;}}", 7, 1, 1, 1, 1, 1, 1, 1, 1, 1, 1, 1, 1, 1, 1, 1, 1, 1, 1, 1, 1, 1, 1, 1, 1);
        CHECKS.dueTrap("Dp{Pp;}M{Y{!1/0;}F{Pp;}}", 6);
        CHECKS.dueTrap("M{Y{T09;}K0a{Y{!1/0;}F{Y{T18;}K1b{}}}}", 5);
        CHECKS.end();
    }

    private static void dueNothing(LeavingMachine machine) {
        CHECKS.dueThrow("raised(false)", IllegalStateException.class, () -> machine.raised(false));
        CHECKS.dueThrow("raised(true)", IllegalStateException.class, () -> machine.raised(true));
    }
}
