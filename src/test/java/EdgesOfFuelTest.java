/** The edges of the FUEL and of the OUTCOME, sentence by sentence. */
public final class EdgesOfFuelTest {
    private static final Checks CHECKS = new Checks();

    public static void main(String[] args) {
        fuelIsZeroTo3000();
        otherFuelIsRefused();
        aStatementCostsOne();
        eachConditionCostsOneMore();
        costsAsItBegins();
        overAtOnce();
        noLastBlocks();
        outcomes();
        CHECKS.end();
    }

    private static void fuelIsZeroTo3000() {
        CHECKS.sentence("A RUN with so much FUEL, 0 .. 3000");
        CHECKS.due("run(0) of M{}", CHECKS.compiled("M{}").run(0), 0);
        CHECKS.due("run(0) of M{R;}", CHECKS.compiled("M{R;}").run(0), 1);
        CHECKS.due("run(1) of M{R;}", CHECKS.compiled("M{R;}").run(1), 0);
        // 1 for the @, 1500 questions and 1499 statements.
        LeavingMachine most = CHECKS.compiled("M{@a<(999+500){a=a+1;}}");
        dueRun(most, 3000, 0, 3000);
        CHECKS.due("a", most.variable(0), 1499);
        dueRun(most, 2999, 1, 2999);
        CHECKS.due("a", most.variable(0), 1499);
        LeavingMachine more = CHECKS.compiled("M{@a<(999+500){a=a+1;}b=1;}");
        dueRun(more, 3000, 1, 3000);
        CHECKS.due("b", more.variable(1), 0);
        dueRun(CHECKS.compiled("M{@1{}}"), 3000, 1, 3000);
        dueRun(CHECKS.compiled("Dp{Pp;}M{@1{Y{Pp;}F{C;}}}"), 3000, 1, 3000);
        dueRun(CHECKS.compiled("M{@a<(999+499){a=a+1;}!1/0;}"), 3000, 2, 2999);
        dueRun(CHECKS.compiled("M{b=1;@a<(999+499){a=a+1;}!1/0;}"), 3000, 2, 3000);
        dueRun(CHECKS.compiled("M{b=1;c=1;@a<(999+499){a=a+1;}!1/0;}"), 3000, 1, 3000);
    }

    private static void dueRun(LeavingMachine machine, int fuel, int outcome, int used) {
        CHECKS.due("run(" + fuel + ")", machine.run(fuel), outcome);
        CHECKS.due("look(4) after run(" + fuel + ")", machine.look(4), outcome);
        CHECKS.due("look(6) after run(" + fuel + ")", machine.look(6), used);
    }

    private static void otherFuelIsRefused() {
        CHECKS.sentence("IllegalArgumentException for other fuel; IllegalStateException if there is no program.");
        LeavingMachine machine = CHECKS.compiled("M{!1;}");
        LeavingMachine without = new LeavingMachine();
        int[] others = {-1, 3001, -3000, 4096, 65536, Integer.MIN_VALUE, Integer.MAX_VALUE};
        for (int fuel : others) {
            CHECKS.dueThrow("run(" + fuel + ")", IllegalArgumentException.class, () -> machine.run(fuel));
            CHECKS.dueThrow("run(" + fuel + ") without a program", IllegalArgumentException.class, () -> without.run(fuel));
        }
        for (int fuel : new int[] {0, 1, 2999, 3000}) {
            CHECKS.due("run(" + fuel + ")", machine.run(fuel), fuel == 0 ? 1 : 0);
            CHECKS.dueThrow("run(" + fuel + ") of a new object", IllegalStateException.class, () -> without.run(fuel));
            LeavingMachine typed = CHECKS.typed("M{}");
            CHECKS.dueThrow("run(" + fuel + ") before compile", IllegalStateException.class, () -> typed.run(fuel));
            for (String wrong : new String[] {"M{", "M{B;}", "M{Pp;}", "M{R;R;}", "M{T01;}"}) {
                LeavingMachine spoiled = CHECKS.compiled("M{}");
                CHECKS.retype(spoiled, wrong);
                spoiled.compile();
                CHECKS.dueThrow("run(" + fuel + ") behind " + wrong, IllegalStateException.class, () -> spoiled.run(fuel));
            }
        }
    }

    private static void aStatementCostsOne() {
        CHECKS.sentence("A statement costs 1 of the FUEL as it begins");
        dueCost("M{}", 0);
        dueCost("M{a=1;}", 1);
        dueCost("M{a=1+2*(3-4)/5;b=a;}", 2);
        dueCost("M{!1;}", 1);
        dueCost("M{?1{}{}}", 1);
        dueCost("M{?1{!1;}{!2;!3;}}", 2);
        dueCost("M{?0{!1;}{!2;!3;}}", 3);
        dueCost("M{R;}", 1);
        dueCost("Dp{}M{Pp;}", 1);
        dueCost("Dp{!1;R;}M{Pp;Pp;}", 6);
        dueCost("M{Y{}F{}}", 1);
        dueCost("M{Y{T01;}K0a{}}", 2);
        dueCost("M{Y{T01;}K0a{!1;}F{!2;}}", 4);
        dueCost("M{Y{Y{T01;}K0a{X;}}K0b{}}", 4);
        dueCost("M{Y{R;}F{!2;}}", 3);
        dueCost("M{@1{B;}}", 3);
    }

    private static void eachConditionCostsOneMore() {
        CHECKS.sentence("and each time a condition of @ is asked 1 more");
        dueCost("M{@0{}}", 2);
        dueCost("M{@0{!1;}}", 2);
        dueCost("M{a=1;@a{a=0;}}", 5);
        for (int times = 0; times < 9; times++) {
            dueCost("M{@a<" + times + "{a=a+1;}}", 2 + 2 * times);
            dueCost("M{@a<" + times + "{a=a+1;C;}}", 2 + 3 * times);
        }
        dueCost("M{@1{B;}}", 3);
        dueCost("M{@1{a=a+1;?a<3{C;}{B;}}}", 1 + 3 * 4);
        dueCost("M{@1{R;}}", 3);
        dueCost("M{@a<2{a=a+1;@0{}}}", 2 + 2 * 4);
        dueCost("M{@1{Y{B;}F{!2;}}}", 5);
        dueCost("M{Y{@1{T01;}}K0a{}}", 4);
    }

    /** The program ends with just so much fuel, and not with less, of which all is used then. */
    private static void dueCost(String text, int cost) {
        LeavingMachine machine = CHECKS.compiled(text);
        CHECKS.due("run(3000) of " + text, machine.run(3000), 0);
        CHECKS.due("look(6) of " + text, machine.look(6), cost);
        for (int fuel = 0; fuel <= cost; fuel++) {
            CHECKS.due("run(" + fuel + ") of " + text, machine.run(fuel), fuel < cost ? 1 : 0);
            CHECKS.due("look(6) of " + text + " with " + fuel, machine.look(6), fuel);
        }
    }

    private static void costsAsItBegins() {
        CHECKS.sentence("A statement costs 1 of the FUEL as it begins, and each time a condition of @ is asked 1 more. When"
            + " there is no more for it, the run is over at once");
        dueNothingDone("M{a=1;}", 0);
        dueNothingDone("M{!1;}", 0);
        dueNothingDone("M{!1/0;}", 0);
        dueNothingDone("M{a=1/0;}", 0);
        dueNothingDone("M{?1/0{}{}}", 0);
        dueNothingDone("Dp{}M{Pp;}", 0);
        dueNothingDone("M{R;}", 0);
        dueNothingDone("M{@1/0{}}", 0);
        dueNothingDone("M{@1/0{}}", 1);
        dueNothingDone("M{@0{}}", 1);
        dueNothingDone("M{@1{a=1;}}", 2);
        dueNothingDone("M{Y{T05;}K0a{}}", 0);
        dueNothingDone("M{Y{T05;}K0a{}}", 1);
        CHECKS.due("run(1) of M{!1/0;}", CHECKS.compiled("M{!1/0;}").run(1), 2);
        CHECKS.due("run(2) of M{@1/0{}}", CHECKS.compiled("M{@1/0{}}").run(2), 2);
        CHECKS.due("run(8) of Dp{Pp;}M{Pp;}", CHECKS.compiled("Dp{Pp;}M{Pp;}").run(8), 1);
        CHECKS.due("run(9) of Dp{Pp;}M{Pp;}", CHECKS.compiled("Dp{Pp;}M{Pp;}").run(9), 2);
        LeavingMachine caught = CHECKS.compiled("M{Y{T05;}K0a{b=1;}}");
        dueRun(caught, 2, 1, 2);
        CHECKS.due("a, as the catch costs nothing itself", caught.variable(0), 5);
        CHECKS.due("b", caught.variable(1), 0);
        LeavingMachine called = CHECKS.compiled("Dp{b=1;}M{Pp;}");
        dueRun(called, 1, 1, 1);
        CHECKS.due("look(7), as p is under way", called.look(7), 1);
        dueRun(called, 0, 1, 0);
        CHECKS.due("look(7), as p is not begun", called.look(7), 0);
    }

    private static void dueNothingDone(String text, int fuel) {
        LeavingMachine machine = CHECKS.compiled(text);
        dueRun(machine, fuel, 1, fuel);
        CHECKS.due("look(5) of " + text, machine.look(5), 0);
        CHECKS.due("look(7) of " + text, machine.look(7), 0);
        CHECKS.due("a of " + text, machine.variable(0), 0);
        CHECKS.dueThrow("raised of " + text, IllegalStateException.class, () -> machine.raised(false));
    }

    /** With less fuel a run does what it did with more, up to the place where there was no more. */
    private static void overAtOnce() {
        CHECKS.sentence("When there is no more for it, the run is over at once (no F blocks).");
        String[] texts = {"M{!1;!2;!3;}", "M{Y{!1;!2;}F{!3;!4;}!5;}", "M{Y{!1;T05;}K0a{!a;!6;}F{!3;!4;}!5;}",
            "Dp0{Y{!1;T05;}F{!2;!3;}}M{@a<2{Y{Pp;}K0b{a=a+1;!b;}F{!4;}}!9;}",
            "Dp{a=a+1;Y{?a<5{Pp;}{}!a;}F{!0-a;}}M{Pp;!99;}", "M{@a<4{a=a+1;Y{?a<3{C;}{!a;B;}}F{!7;}!8;}!9;}",
            "M{Y{Y{Y{!1;}F{!2;}}F{!3;}}F{!4;}}", "M{Y{!1;R;}F{!2;Y{!3;}F{!4;}}!5;}"};
        for (String text : texts) {
            LeavingMachine whole = CHECKS.compiled(text);
            whole.run(3000);
            int cost = whole.look(6);
            int before = 0;
            for (int fuel = 0; fuel < cost; fuel++) {
                LeavingMachine machine = CHECKS.compiled(text);
                dueRun(machine, fuel, 1, fuel);
                int outs = machine.look(5);
                CHECKS.due("look(5) of " + text + " with " + fuel + " is " + outs + ", so one more at most",
                    outs == before || outs == before + 1, true);
                for (int i = 0; i < outs; i++) {
                    CHECKS.due("out(" + i + ") of " + text + " with " + fuel, machine.out(i), whole.out(i));
                }
                before = outs;
            }
        }
    }

    private static void noLastBlocks() {
        CHECKS.sentence("the run is over at once (no F blocks)");
        CHECKS.dueRun("M{Y{!1;!2;}F{!7;}}", 2, 1, 1);
        CHECKS.dueRun("M{Y{!1;!2;}F{!7;}}", 3, 1, 1, 2);
        CHECKS.dueRun("M{Y{@1{}}F{!7;}}", 9, 1);
        CHECKS.dueRun("M{Y{Y{@1{}}F{!7;}}F{!7;}}", 9, 1);
        CHECKS.dueRun("M{Y{T05;}K0a{!1;!2;}F{!7;}}", 3, 1, 1);
        CHECKS.dueRun("M{Y{Y{T05;}K0a{!1;!2;}F{!7;}}F{!7;}}", 4, 1, 1);
        CHECKS.dueRun("Dp{Y{!1;!2;}F{!7;}}M{Y{Pp;}F{!7;}}", 4, 1, 1);
        CHECKS.dueRun("M{Y{Y{}F{!1;!2;}}F{!7;}}", 3, 1, 1);
        // An F block that would not cost anything, or that would leave, is not done either.
        CHECKS.dueRun("M{Y{@1{}}F{}}", 9, 1);
        LeavingMachine machine = CHECKS.dueRun("M{@1{Y{@1{}}F{B;}}a=1;}", 3000, 1);
        CHECKS.due("a", machine.variable(0), 0);
        CHECKS.dueRun("M{Y{!1;}F{}}", 1, 1);
    }

    private static void outcomes() {
        CHECKS.sentence("OUTCOME: 0 it ended, 1 the fuel was used up, 2 something RAISED, or a TRAP, left M.");
        LeavingMachine machine = CHECKS.compiled("M{a=1;!9/b;}");
        dueRun(machine, 0, 1, 0);
        dueRun(machine, 1, 1, 1);
        dueRun(machine, 2, 2, 2);
        dueRun(machine, 3, 2, 2);
        LeavingMachine ends = CHECKS.compiled("M{a=1;R;}");
        dueRun(ends, 1, 1, 1);
        dueRun(ends, 2, 0, 2);
        dueRun(ends, 3, 0, 2);
        // All fuel is used, but there was enough of it for each statement.
        dueRun(CHECKS.compiled("M{a=1;}"), 1, 0, 1);
        dueRun(CHECKS.compiled("M{@0{}}"), 2, 0, 2);
        dueRun(CHECKS.compiled("Dp{Pp;}M{Pp;}"), 9, 2, 9);
        dueRun(CHECKS.compiled("M{@1{!1;}}"), 51, 2, 51);
        dueRun(CHECKS.compiled("M{@1{!1;}}"), 50, 1, 50);
        // What was raised and taken, or lost, did not leave M.
        dueRun(CHECKS.compiled("M{Y{T05;}K0a{}}"), 9, 0, 2);
        dueRun(CHECKS.compiled("M{Y{!1/0;}F{R;}}"), 9, 0, 3);
        dueRun(CHECKS.compiled("M{Y{!1/0;}F{!1;!2;}}"), 3, 1, 3);
        dueRun(CHECKS.compiled("M{Y{!1/0;}F{!1;!2;}}"), 4, 2, 4);
    }
}
