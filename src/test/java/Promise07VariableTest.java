/** Promise 7: variable. */
public final class Promise07VariableTest {
    private static final Checks CHECKS = new Checks();

    public static void main(String[] args) {
        LeavingMachine machine = new LeavingMachine();
        dueVariables(machine, 0, 0, 0, 0, 0, 0, 0, 0);
        dueRefused(machine);
        CHECKS.retype(machine, "M{a=1;b=22;c=333;d=0-4;e=5;f=6;g=7;h=8;}");
        CHECKS.due("compile", machine.compile(), 0);
        dueVariables(machine, 0, 0, 0, 0, 0, 0, 0, 0);
        CHECKS.due("run(8)", machine.run(8), 0);
        dueVariables(machine, 1, 22, 333, -4, 5, 6, 7, 8);
        dueRefused(machine);
        machine.wipe();
        dueVariables(machine, 1, 22, 333, -4, 5, 6, 7, 8);
        CHECKS.due("run(3)", machine.run(3), 1);
        dueVariables(machine, 1, 22, 333, 0, 0, 0, 0, 0);
        CHECKS.due("compile of no text", machine.compile(), 1);
        dueVariables(machine, 0, 0, 0, 0, 0, 0, 0, 0);
        CHECKS.retype(machine, "M{a=9;Y{T34;}K3h{b=1;}c=a/d;}");
        CHECKS.due("compile", machine.compile(), 0);
        CHECKS.due("run(9)", machine.run(9), 2);
        dueVariables(machine, 9, 1, 0, 0, 0, 0, 0, 4);
        CHECKS.end();
    }

    private static void dueVariables(LeavingMachine machine, int... values) {
        for (int k = 0; k < values.length; k++) {
            CHECKS.due("variable(" + k + ")", machine.variable(k), values[k]);
        }
    }

    private static void dueRefused(LeavingMachine machine) {
        for (int k : new int[] {-1, 8, Integer.MIN_VALUE, Integer.MAX_VALUE}) {
            CHECKS.dueThrow("variable(" + k + ")", IndexOutOfBoundsException.class, () -> machine.variable(k));
        }
    }
}
