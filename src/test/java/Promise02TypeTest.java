/** Promise 2: type. */
public final class Promise02TypeTest {
    private static final Checks CHECKS = new Checks();

    public static void main(String[] args) {
        addsHighestByteFirst();
        passesOverZeroBytes();
        refusesOtherBytes();
        refusesMoreThan160();
        leavesTheProgramAlone();
        CHECKS.end();
    }

    private static void addsHighestByteFirst() {
        LeavingMachine machine = new LeavingMachine();
        CHECKS.due("type of M{a=12;}", machine.type(Checks.part("M{a=12;}")), true);
        CHECKS.due("look(0)", machine.look(0), 8);
        CHECKS.due("compile", machine.compile(), 0);
        CHECKS.due("run", machine.run(1), 0);
        CHECKS.due("variable", machine.variable(0), 12);
        CHECKS.due("type behind it", machine.type(Checks.part("x")), true);
        CHECKS.due("compile of M{a=12;}x", machine.compile(), 1);
    }

    private static void passesOverZeroBytes() {
        LeavingMachine machine = new LeavingMachine();
        CHECKS.due("type(0)", machine.type(0), true);
        CHECKS.due("look(0) after type(0)", machine.look(0), 0);
        CHECKS.due("type of M, 0, {, 0, 0, }, 0, 0", machine.type(0x4D007B00007D0000L), true);
        CHECKS.due("look(0)", machine.look(0), 3);
        CHECKS.due("compile of M{}", machine.compile(), 0);
    }

    private static void refusesOtherBytes() {
        for (int character = 1; character < 256; character++) {
            boolean fits = character >= 33 && character <= 126;
            for (int shift = 0; shift < 64; shift += 8) {
                LeavingMachine machine = new LeavingMachine();
                String what = "type of byte " + character + " at " + shift;
                CHECKS.due(what, machine.type((long) character << shift), fits);
                CHECKS.due("look(0) after " + what, machine.look(0), fits ? 1 : 0);
            }
        }
        LeavingMachine machine = CHECKS.typed("M{}");
        CHECKS.due("type with a last byte of 32", machine.type(0x2121212121212120L), false);
        CHECKS.due("type with a first byte of 127", machine.type(0x7F21212121212121L), false);
        CHECKS.due("type(-1)", machine.type(-1), false);
        CHECKS.due("look(0) after what was refused", machine.look(0), 3);
        CHECKS.due("compile after what was refused", machine.compile(), 0);
    }

    private static void refusesMoreThan160() {
        LeavingMachine machine = CHECKS.typed("!".repeat(157));
        CHECKS.due("type of 4 at 157", machine.type(Checks.part("abcd")), false);
        CHECKS.due("look(0)", machine.look(0), 157);
        CHECKS.due("type of 3 at 157", machine.type(Checks.part("abc")), true);
        CHECKS.due("look(0)", machine.look(0), 160);
        CHECKS.due("type of 1 at 160", machine.type(Checks.part("a")), false);
        CHECKS.due("type of none at 160", machine.type(0), true);
        CHECKS.due("type of a wrong byte at 160", machine.type(1), false);
        CHECKS.due("look(0)", machine.look(0), 160);
    }

    private static void leavesTheProgramAlone() {
        LeavingMachine machine = CHECKS.dueRun("M{!3;}", 10, 0, 3);
        CHECKS.due("type", machine.type(Checks.part("rest")), true);
        CHECKS.due("look(1)", machine.look(1), 1);
        CHECKS.due("look(4)", machine.look(4), 0);
        CHECKS.due("out(0)", machine.out(0), 3);
        CHECKS.due("run", machine.run(10), 0);
    }
}
