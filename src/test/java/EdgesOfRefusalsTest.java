import java.util.ArrayList;
import java.util.List;

/** "What throws, or answers false, changes nothing": every refused call in every kind of state. */
public final class EdgesOfRefusalsTest {
    private static final Checks CHECKS = new Checks();
    private static final String PROGRAM = "Dp0{a=7;!a;T03;}Dq{}M{Y{Pp;}K0b{}!2;!a/c;}";
    private static final int STATES = 12;

    private interface Refused {
        String answer(LeavingMachine machine);
    }

    public static void main(String[] args) {
        CHECKS.sentence("What throws, or answers false, changes nothing.");
        for (int state = 0; state < STATES; state++) {
            for (Refused call : refused(inState(state))) {
                dueUnchanged(state, call);
            }
        }
        allTogether();
        CHECKS.end();
    }

    /** A new object that is brought into one of the states. */
    private static LeavingMachine inState(int state) {
        switch (state) {
            case 0: return new LeavingMachine();
            case 1: return CHECKS.typed("M{!1;");
            case 2: return CHECKS.typed(PROGRAM);
            case 3: return CHECKS.compiled(PROGRAM);
            case 4: return ran(PROGRAM, 0);
            case 5: return ran(PROGRAM, 5);
            case 6: return ran(PROGRAM, 3000);
            case 7: return ran("Dp{!4;}M{Pp;h=5;}", 3000);
            case 8: return ran("M{@1{!a;a=a+1;}}", 3000);
            case 9: return ran("M{" + "?a{}{}".repeat(26) + "}", 30);
            case 10: return withText(ran("Dp{Pp;}M{Pp;}", 3000), "M{" + "a=5;".repeat(39) + "}");
            default: return spoiled();
        }
    }

    private static LeavingMachine ran(String text, int fuel) {
        LeavingMachine machine = CHECKS.compiled(text);
        machine.run(fuel);
        return machine;
    }

    private static LeavingMachine withText(LeavingMachine machine, String text) {
        CHECKS.retype(machine, text);
        return machine;
    }

    private static LeavingMachine spoiled() {
        LeavingMachine machine = withText(ran(PROGRAM, 3000), "M{B;}");
        machine.compile();
        return machine;
    }

    /** The calls that an object in such a state refuses. */
    private static List<Refused> refused(LeavingMachine machine) {
        List<Refused> calls = new ArrayList<>();
        for (long part : new long[] {1, 32, 127, 128, 255, -1, Checks.part("M{}x") << 8 | 31, 0x7F212121_21212121L,
            Long.MIN_VALUE, Long.MAX_VALUE, 0x21212120_21212121L}) {
            calls.add(each -> Boolean.toString(each.type(part)));
        }
        if (machine.look(0) > 152) {
            calls.add(each -> Boolean.toString(each.type(Checks.part("M{!1;}!!"))));
        }
        for (int fuel : new int[] {-1, 3001, Integer.MIN_VALUE, Integer.MAX_VALUE}) {
            calls.add(each -> Checks.answer(() -> each.run(fuel)));
        }
        if (machine.look(1) == 0) {
            calls.add(each -> Checks.answer(() -> each.run(0)));
            calls.add(each -> Checks.answer(() -> each.run(3000)));
        }
        int outs = machine.look(5);
        for (int i : new int[] {-1, outs, 24, Integer.MIN_VALUE, Integer.MAX_VALUE}) {
            calls.add(each -> Checks.answer(() -> each.out(i)));
        }
        for (int k : new int[] {-1, 8, Integer.MIN_VALUE, Integer.MAX_VALUE}) {
            calls.add(each -> Checks.answer(() -> each.variable(k)));
        }
        int procedures = machine.look(2);
        for (int p : new int[] {-1, procedures, 3, Integer.MIN_VALUE, Integer.MAX_VALUE}) {
            calls.add(each -> Checks.answer(() -> each.raises(p)));
        }
        if (machine.look(4) != 2) {
            calls.add(each -> Checks.answer(() -> each.raised(false)));
            calls.add(each -> Checks.answer(() -> each.raised(true)));
        }
        return calls;
    }

    /** Beside a twin that is not asked the call, the object answers the same, now and when all goes on. */
    private static void dueUnchanged(int state, Refused call) {
        LeavingMachine machine = inState(state);
        LeavingMachine twin = inState(state);
        String answer = call.answer(machine);
        CHECKS.due("a call in state " + state + " that answered " + answer + " is refused",
            answer.equals("false") || answer.endsWith("Exception"), true);
        String what = "all of state " + state + " behind a call that answered " + answer;
        CHECKS.due(what, Checks.seen(machine), Checks.seen(twin));
        CHECKS.due("the same call again", call.answer(machine), answer);
        goOn(machine, twin, what);
    }

    private static void goOn(LeavingMachine machine, LeavingMachine twin, String what) {
        for (int fuel : new int[] {3000, 6}) {
            CHECKS.due("run(" + fuel + "), " + what, Checks.answer(() -> machine.run(fuel)),
                Checks.answer(() -> twin.run(fuel)));
            CHECKS.due("behind run, " + what, Checks.seen(machine), Checks.seen(twin));
        }
        // The text can't be seen but by compile: the one that was there is still the same.
        CHECKS.due("compile, " + what, machine.compile(), twin.compile());
        CHECKS.due("run(3000), " + what, Checks.answer(() -> machine.run(3000)), Checks.answer(() -> twin.run(3000)));
        CHECKS.due("behind compile and run, " + what, Checks.seen(machine), Checks.seen(twin));
        CHECKS.due("type of }, " + what, machine.type('}'), twin.type('}'));
        CHECKS.due("compile of more, " + what, machine.compile(), twin.compile());
        CHECKS.due("behind compile of more, " + what, Checks.seen(machine), Checks.seen(twin));
    }

    /** All refused calls one behind the other. */
    private static void allTogether() {
        for (int state = 0; state < STATES; state++) {
            LeavingMachine machine = inState(state);
            LeavingMachine twin = inState(state);
            for (Refused call : refused(twin)) {
                call.answer(machine);
            }
            CHECKS.due("all of state " + state + " behind all refused calls", Checks.seen(machine), Checks.seen(twin));
            goOn(machine, twin, "state " + state + " behind all refused calls");
        }
    }
}
