/** Promise 9: raises. */
public final class Promise09RaisesTest {
    private static final Checks CHECKS = new Checks();

    public static void main(String[] args) {
        due("M{}");
        due("Dp{}M{}", 0);
        due("Dp01234{}M{}", 0);
        due("Dp01234{T31;}M{}", 8);
        due("Dr4{T41;}Dq1{T11;}Dp0{T01;}M{}", 16, 2, 1);
        due("Dp01234{?1{T01;}{@1{Y{T21;}F{T41;}}}}M{}", 21);
        due("Dp012{Y{T01;}K0a{T11;}}M{}", 2);
        due("Dp012{Y{T01;}K0a{X;}}M{}", 1);
        due("Dp012{Y{?1{T01;}{T21;}}K0a{Y{T11;}K1b{X;}}}M{}", 6);
        due("Dp012{Y{?1{T01;}{T21;}}K0a{Y{T11;}K1b{}F{X;}}}M{}", 5);
        due("Dp012{}Dq012{Pp;}M{}", 0, 7);
        due("Dp012{Pp;}M{}", 7);
        due("Dp03{Y{Pq;}K1a{}}Dq013{}M{}", 9, 0);
        due("Dp0{Y{T01;}F{R;}}M{}", 1);
        due("Dp1{!1/0;}M{}", 0);
        isRefused();
        staysWithTheProgram();
        CHECKS.end();
    }

    private static void due(String text, int... bits) {
        LeavingMachine machine = CHECKS.compiled(text);
        for (int p = 0; p < bits.length; p++) {
            CHECKS.due("raises(" + p + ") of " + text, machine.raises(p), bits[p]);
        }
        dueRefused(machine, bits.length, -1, 3, Integer.MIN_VALUE, Integer.MAX_VALUE);
    }

    private static void isRefused() {
        LeavingMachine machine = new LeavingMachine();
        dueRefused(machine, 0, 1, 2);
        CHECKS.retype(machine, "Dp0{T01;}M{}");
        dueRefused(machine, 0);
        CHECKS.due("compile", machine.compile(), 0);
        CHECKS.due("raises(0)", machine.raises(0), 1);
        for (String wrong : new String[] {"Dp0{T01;}", "Dp0{B;}M{}", "Dp0{Pq;}M{}", "Dp{R;R;}M{}", "Dp{T01;}M{}"}) {
            CHECKS.retype(machine, wrong);
            CHECKS.due("compile of " + wrong + " is not 0", machine.compile() != 0, true);
            dueRefused(machine, 0, 1, 2);
        }
    }

    private static void staysWithTheProgram() {
        LeavingMachine machine = CHECKS.compiled("Dp0{T01;}Dq{}M{Y{Pp;}K0a{}}");
        CHECKS.retype(machine, "M{}");
        CHECKS.due("run", machine.run(9), 0);
        CHECKS.due("raises(0) of the program", machine.raises(0), 1);
        CHECKS.due("compile", machine.compile(), 0);
        dueRefused(machine, 0);
    }

    private static void dueRefused(LeavingMachine machine, int... procedures) {
        for (int p : procedures) {
            CHECKS.dueThrow("raises(" + p + ")", IllegalArgumentException.class, () -> machine.raises(p));
        }
    }
}
