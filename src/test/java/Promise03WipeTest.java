/** Promise 3: wipe. */
public final class Promise03WipeTest {
    private static final Checks CHECKS = new Checks();

    public static void main(String[] args) {
        LeavingMachine machine = CHECKS.dueTrap("Dp0{T01;}M{!4;b=2;Y{Pp;}K0a{}!a/c;}", 5, 4);
        machine.wipe();
        CHECKS.due("look(0) after wipe", machine.look(0), 0);
        CHECKS.due("look(1) after wipe", machine.look(1), 1);
        CHECKS.due("look(2) after wipe", machine.look(2), 1);
        CHECKS.due("look(3) after wipe", machine.look(3), 6);
        CHECKS.due("look(4) after wipe", machine.look(4), 2);
        CHECKS.due("out(0) after wipe", machine.out(0), 4);
        CHECKS.due("variable(1) after wipe", machine.variable(1), 2);
        CHECKS.due("raised after wipe", machine.raised(false), 5);
        CHECKS.due("raises after wipe", machine.raises(0), 1);
        CHECKS.due("run after wipe", machine.run(1), 1);
        machine.wipe();
        CHECKS.due("look(0) after a second wipe", machine.look(0), 0);
        CHECKS.due("compile of a wiped text", machine.compile(), 1);
        CHECKS.retype(machine, "!".repeat(160));
        machine.wipe();
        CHECKS.due("type after a full text was wiped", machine.type(Checks.part("M{}")), true);
        CHECKS.due("look(0)", machine.look(0), 3);
        CHECKS.due("compile", machine.compile(), 0);
        CHECKS.end();
    }
}
