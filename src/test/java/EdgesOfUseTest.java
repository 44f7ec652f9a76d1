/** "An object is used for at most 512 calls after it has been made": the last of them is answered as the first was. */
public final class EdgesOfUseTest {
    private static final Checks CHECKS = new Checks();
    private static final int CALLS = 512;

    public static void main(String[] args) {
        CHECKS.sentence("An object is used for at most 512 calls after it has been made");
        runs512();
        compiles512();
        typesAndWipes512();
        asks512();
        refuses512();
        everyCallInTurn();
        CHECKS.end();
    }

    private static void runs512() {
        LeavingMachine longest = CHECKS.typed("M{@1{a=a+1;}}");
        LeavingMachine deepest = CHECKS.typed("Dp{Y{Y{Y{Pp;}F{}}F{}}F{}}M{@1{Y{Pp;}F{C;}}}");
        LeavingMachine fullest = CHECKS.typed("M{@1{!a;a=a+1;}}");
        CHECKS.due("compile", longest.compile() + deepest.compile() + fullest.compile(), 0);
        for (int calls = 20; calls < CALLS; calls += 2) {
            CHECKS.due("run, the longest", longest.run(3000), 1);
            CHECKS.due("variable(0)", longest.variable(0), 1499);
            CHECKS.due("run, the deepest", deepest.run(3000), 1);
            CHECKS.due("look(7)", deepest.look(7), 8);
            CHECKS.due("run, the fullest", fullest.run(3000), 2);
            CHECKS.due("out(23)", fullest.out(23), 23);
        }
    }

    private static void compiles512() {
        String[] texts = {"M{" + "Y{T01;}K0a{}".repeat(13) + "}", "M{" + "B;".repeat(78) + "}", "M{!1" + "+1".repeat(77) + ";}",
            "Dp{Pp;}Dq{Pq;}Dr{Pr;}M{Pp;}", "M{" + "?1{}{}".repeat(26) + "}", "M{" + "@1{@1{@1{}}}".repeat(13) + "}", "M{!1;!"};
        int[] wants = {0, 2, 0, 0, 0, 0, 1};
        for (int i = 0; i < texts.length; i++) {
            LeavingMachine machine = CHECKS.typed(texts[i]);
            for (int calls = 20; calls < CALLS; calls++) {
                CHECKS.due("compile of " + texts[i], machine.compile(), wants[i]);
            }
        }
    }

    private static void typesAndWipes512() {
        LeavingMachine machine = new LeavingMachine();
        for (int calls = 0; calls < CALLS; calls += 2) {
            CHECKS.due("type", machine.type(Checks.part("M{!1;!2;")), true);
            machine.wipe();
        }
        LeavingMachine full = new LeavingMachine();
        for (int calls = 0; calls < CALLS - 1; calls++) {
            CHECKS.due("type, for the time " + (calls + 1), full.type('M'), calls < 160);
        }
        CHECKS.due("look(0), the 512th call", full.look(0), 160);
    }

    private static void asks512() {
        LeavingMachine machine = CHECKS.dueTrap("Dp4{T41;}M{a=3;!a;!a/b;}", 5, 3);
        for (int calls = 20; calls < CALLS - 6; calls += 6) {
            CHECKS.due("out(0)", machine.out(0), 3);
            CHECKS.due("variable(0)", machine.variable(0), 3);
            CHECKS.due("raised(false)", machine.raised(false), 5);
            CHECKS.due("raised(true)", machine.raised(true), 0);
            CHECKS.due("raises(0)", machine.raises(0), 16);
            CHECKS.due("look(6)", machine.look(6), 3);
        }
    }

    private static void refuses512() {
        LeavingMachine machine = CHECKS.compiled("M{!1;}");
        for (int calls = 20; calls < CALLS - 6; calls += 6) {
            CHECKS.dueThrow("run(-1)", IllegalArgumentException.class, () -> machine.run(-1));
            CHECKS.dueThrow("out(0)", IndexOutOfBoundsException.class, () -> machine.out(0));
            CHECKS.dueThrow("variable(8)", IndexOutOfBoundsException.class, () -> machine.variable(8));
            CHECKS.dueThrow("raised(true)", IllegalStateException.class, () -> machine.raised(true));
            CHECKS.dueThrow("raises(0)", IllegalArgumentException.class, () -> machine.raises(0));
            CHECKS.due("type(-1)", machine.type(-1), false);
        }
        CHECKS.due("run behind them all", machine.run(1), 0);
    }

    private static void everyCallInTurn() {
        LeavingMachine machine = new LeavingMachine();
        for (int calls = 0; calls + 10 <= CALLS; calls += 10) {
            int last = calls / 10 % 10;
            CHECKS.due("type", machine.type(Checks.part("Dp2{T2" + last + ";")), true);
            CHECKS.due("type", machine.type(Checks.part("}M{!" + last + ";h=")), true);
            CHECKS.due("type", machine.type(Checks.part("1/a;}")), true);
            CHECKS.due("compile", machine.compile(), 0);
            CHECKS.due("run", machine.run(calls + 2), 2);
            CHECKS.due("out(0)", machine.out(0), last);
            CHECKS.due("variable(7)", machine.variable(7), 0);
            CHECKS.due("raises(0)", machine.raises(0), 4);
            CHECKS.due("raised(false)", machine.raised(false), 5);
            machine.wipe();
        }
    }
}
