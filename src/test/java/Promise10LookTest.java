/** Promise 10: look. */
public final class Promise10LookTest {
    private static final Checks CHECKS = new Checks();
    private static final int NONE = LeavingMachine.NONE;

    public static void main(String[] args) {
        LeavingMachine machine = new LeavingMachine();
        dueLooks(machine, 0, 0, 0, 0, NONE, 0, 0, 0);
        CHECKS.retype(machine, "Dp{!a;}Dq{Pp;!2;}M{@a<2{a=a+1;Pq;}?a{R;}{}Y{}F{}}");
        dueLooks(machine, 49, 0, 0, 0, NONE, 0, 0, 0);
        CHECKS.due("compile", machine.compile(), 0);
        dueLooks(machine, 49, 1, 2, 9, NONE, 0, 0, 0);
        CHECKS.due("run(3000)", machine.run(3000), 0);
        dueLooks(machine, 49, 1, 2, 9, 0, 4, 16, 2);
        CHECKS.due("run(4)", machine.run(4), 1);
        dueLooks(machine, 49, 1, 2, 9, 1, 0, 4, 1);
        machine.wipe();
        dueLooks(machine, 0, 1, 2, 9, 1, 0, 4, 1);
        CHECKS.due("run(0)", machine.run(0), 1);
        dueLooks(machine, 0, 1, 2, 9, 1, 0, 0, 0);
        CHECKS.due("compile of no text", machine.compile(), 1);
        dueLooks(machine, 0, 0, 0, 0, NONE, 0, 0, 0);
        CHECKS.retype(machine, "Dr{Pr;}M{!1;Pr;}");
        CHECKS.due("compile", machine.compile(), 0);
        CHECKS.due("run(3000)", machine.run(3000), 2);
        dueLooks(machine, 16, 1, 1, 3, 2, 1, 10, 8);
        countsStatements();
        CHECKS.end();
    }

    private static void dueLooks(LeavingMachine machine, int... looks) {
        for (int which = 0; which < looks.length; which++) {
            CHECKS.due("look(" + which + ")", machine.look(which), looks[which]);
        }
        for (int which : new int[] {-1, 8, 9, Integer.MIN_VALUE, Integer.MAX_VALUE}) {
            CHECKS.due("look(" + which + ")", machine.look(which), NONE);
        }
    }

    private static void countsStatements() {
        dueStatements("M{}", 0);
        dueStatements("M{R;}", 1);
        dueStatements("Dp{Pp;}Dq{@1{B;}}Dr{}M{!1;}", 4);
        dueStatements("M{Y{T01;}K0a{!1;!2;}F{?1{}{R;}}}", 6);
        dueStatements("M{" + "!1;".repeat(52) + "}", 52);
    }

    private static void dueStatements(String text, int want) {
        CHECKS.due("look(3) of " + text, CHECKS.compiled(text).look(3), want);
    }
}
