/** Promise 4: compile, the grammar and CHECKING. */
public final class Promise04CompileTest {
    private static final Checks CHECKS = new Checks();

    public static void main(String[] args) {
        readsPrograms();
        readsStatements();
        readsExpressions();
        keepsToTheDepths();
        findsWhatIsOutOfPlace();
        findsNames();
        findsWhatStandsBehind();
        findsTheFirstFault();
        findsWhatIsRaised();
        findsWhatIsCaughtInVain();
        readsLongTexts();
        changesProgramAndRun();
        CHECKS.end();
    }

    private static void due(int want, String... texts) {
        for (String text : texts) {
            CHECKS.dueCompile(text, want);
        }
    }

    private static void readsPrograms() {
        due(0, "M{}", "Dp{}M{}", "Dp{}Dq{}Dr{}M{}", "Dr{}Dp{}M{}", "Dp01234{}M{}", "Dp024{}M{}", "Dq4{}M{}");
        due(1, "", "M", "M{", "M}", "{}", "M{}}", "M{}M{}", "M{}Dp{}", "m{}", "MM{}", "Dp{}", "D{}M{}", "Ds{}M{}",
            "Do{}M{}", "DP{}M{}", "Dp{}Dq{}Dr{}Dp{}M{}", "Dp5{}M{}", "Dp10{}M{}", "Dp00{}M{}", "Dp0,1{}M{}",
            "Dp01234", "Dpq{}M{}", "Dp{}{}M{}", "D0p{}M{}", "M0{}");
    }

    private static void readsStatements() {
        due(0, "M{a=0;h=a;}", "M{!a;}", "M{?a{}{}}", "M{@a{}}", "M{@a{B;}}", "M{@a{C;}}", "M{R;}", "M{Y{}F{}}",
            "M{Y{T01;}K0a{}}", "M{Y{T45;}K4h{}F{}}", "M{Y{?a{T01;}{?b{T11;}{T21;}}}K2a{}K0b{}K1c{}F{}}",
            "Dp{}M{Pp;Pp;}", "M{Y{T0(1);}K0a{a=1;}}", "M{Y{}F{}Y{}F{}}");
        due(1, "M{a=0}", "M{a=;}", "M{a0;}", "M{i=0;}", "M{A=0;}", "M{a==0;}", "M{=0;}", "M{a=0;;}", "M{;}", "M{!;}",
            "M{!1}", "M{!!1;}", "M{?a{}}", "M{?{}{}}", "M{?a{}{}{}}", "M{?a;{}{}}", "M{?a{}{};}", "M{@{}}", "M{@a{};}",
            "M{@a}", "M{@a{}{}}", "M{B}", "M{B1;}", "M{C}", "M{R}", "M{R1;}", "M{X}", "M{X0;}", "M{T;}", "M{T0;}",
            "M{T5a;}", "M{Ta;}", "M{T01}", "M{P;}", "M{Pp}", "M{Ps;}", "M{Po;}", "M{Pa;}", "M{Y{}}", "M{Y}", "M{YF{}}",
            "M{F{}}", "M{K0a{}}", "M{Y{}F{}F{}}", "M{Y{T01;}F{}K0a{}}", "M{Y{T01;}K0a}", "M{Y{T01;}K0{}}",
            "M{Y{T01;}Ka{}}", "M{Y{T01;}K5a{}}", "M{Y{T01;}K0i{}}", "M{Y{T01;}K0a{}K0b{}}", "M{Y{}K1a{}K2a{}K1a{}}",
            "M{Y{}K0a{}K1a{}K2a{}K3a{}}", "M{Y{}F}", "M{Y{};F{}}", "M{D}", "M{M{}}", "M{{}}", "M{b}", "M{~;}");
    }

    private static void readsExpressions() {
        due(0, "M{!0;}", "M{!000;}", "M{!999;}", "M{!a+1-b*2/c<3;}", "M{!(a);}", "M{!(1+2)*(3-4);}", "M{!1<2<3;}");
        due(1, "M{!0000;}", "M{!1234;}", "M{!-1;}", "M{!1+;}", "M{!+1;}", "M{!1++2;}", "M{!();}", "M{!(1;}", "M{!1);}",
            "M{!(1));}", "M{!a1;}", "M{!1a;}", "M{!ab;}", "M{!i;}", "M{!1>2;}", "M{!1%2;}", "M{!1=2;}", "M{!(1)(2);}",
            "M{!(1)2;}", "M{!1(2);}", "M{T01234;}", "M{!1.5;}");
        due(5, "M{T0123;}", "M{T0999;}");
    }

    private static void keepsToTheDepths() {
        due(0, "M{?1{?1{?1{}{}}{}}{}}", "Dp{@1{@1{@1{}}}}M{}", "M{Y{Y{Y{T01;}K0a{}}F{}}F{}}", "M{!(((1)));}",
            "M{!(((1))+((2)))+(((3)));}", "M{@(((a))){}}", "M{Y{}F{Y{}F{Y{}F{}}}}");
        due(1, "M{?1{?1{?1{?1{}{}}{}}{}}{}}", "M{?1{}{?1{}{?1{}{?1{}{}}}}}", "Dp{@1{@1{@1{@1{}}}}}M{}",
            "M{Y{Y{Y{Y{}F{}}F{}}F{}}F{}}", "M{Y{T01;}K0a{@1{@1{@1{}}}}}", "M{Y{}F{Y{}F{Y{}F{Y{}F{}}}}}",
            "M{!((((1))));}", "M{!1+((((1))));}", "M{!(((1)))+((((1))));}", "M{@1{@1{@1{Y{}F{}}}}}");
    }

    private static void findsWhatIsOutOfPlace() {
        due(2, "M{B;}", "M{C;}", "M{X;}", "M{?1{B;}{}}", "M{@1{}B;}", "M{Y{C;}F{}}", "Dp{B;}M{@1{Pp;}}", "Dp{X;}M{}",
            "M{Y{X;}K0a{}}", "M{Y{T01;}K0a{}X;}", "M{Y{T01;}K0a{}F{X;}}", "M{@1{X;}}",
            "Dp{X;}M{Y{T01;}K0a{Pp;}}");
        due(0, "M{@1{?1{B;}{C;}}}", "M{@1{Y{B;}F{C;}}}", "M{@1{Y{T01;}K0a{B;}}}", "Dp0{Y{T01;}K0a{X;}}M{}",
            "Dp0{Y{T01;}K0a{@1{X;}}}M{}", "Dp0{Y{T01;}K0a{Y{X;}F{}}}M{}", "Dp0{Y{T01;}K0a{Y{}F{X;}}}M{}");
    }

    private static void findsNames() {
        due(3, "M{Pp;}", "Dp{}M{Pq;}", "Dp{Pr;}Dq{}M{}", "Dp{}Dp{}M{}", "Dp{}Dq{}Dp{}M{}", "Dq{}Dp{}Dp{}M{}",
            "Dp{}Dp0{T11;}M{}", "Dp0{}Dp{}M{Pp;}");
        due(0, "Dp{Pp;}M{}", "Dp{Pq;}Dq{Pp;}M{}", "Dp{Pr;}Dr{}M{Pp;}");
    }

    private static void findsWhatStandsBehind() {
        due(4, "M{R;!1;}", "M{R;R;}", "M{@1{B;a=1;}}", "M{@1{C;?1{}{}}}", "M{T01;@1{}}", "M{Y{T01;}K0a{X;Y{}F{}}}",
            "Dp{R;Pp;}M{}", "M{?1{R;!1;}{}}", "M{Y{}F{R;a=1;}}", "M{a=1;R;a=1;a=1;}");
        due(0, "M{?1{R;}{R;}!1;}", "M{@1{R;}!1;}", "M{Y{R;}F{}!1;}", "Dp{R;}M{Pp;!1;}", "M{@1{@1{B;}C;}}");
    }

    private static void findsTheFirstFault() {
        due(1, "M{B;Pp;R;!1;", "M{B;Ps;}");
        due(2, "M{B;Pp;}", "M{R;B;}", "M{B;B;}", "M{@1{B;X;}}", "M{?1{B;}{}Pp;}", "Dp{}Dp{X;}M{}");
        due(3, "M{Pp;B;}", "M{R;Pp;}", "M{R;Pp;B;}", "M{Pp;R;!1;}", "Dp{Pq;}M{B;}");
        due(4, "M{R;?1{B;}{}}", "M{R;?1{Pp;}{}}", "M{R;a=1;B;}", "M{R;!1;Pp;}", "Dp{}Dp{R;!1;}M{}", "M{T01;!1;}");
        due(5, "Dp0{}M{Pp;}", "Dp{T01;}Dq{}M{}");
    }

    private static void findsWhatIsRaised() {
        due(5, "M{T01;}", "Dp{T01;}M{}", "Dp1{T01;}M{}", "Dp0{}M{Pp;}", "Dp0{}Dq{Pp;}M{}", "Dp01{T01;}Dq0{Pp;}M{}",
            "M{?1{}{T01;}}", "M{@0{T01;}}", "M{Y{?1{T01;}{T11;}}K0a{}}", "M{Y{T01;}K0a{X;}}", "M{Y{T01;}K0a{T01;}}",
            "M{Y{}F{T01;}}", "M{Y{T01;}F{R;}}", "M{Y{T01;}K0a{}F{T01;}}", "M{Y{T01;}K0a{Y{T11;}K1b{X;}}}",
            "Dp0{Y{T01;}K0a{Y{T11;}K1b{X;}}}M{}", "Dp1{Y{T01;}K0a{Y{T11;}K1b{}F{X;}}}M{}");
        due(0, "Dp01{T01;}M{}", "Dp0{}Dq01{Pp;}M{}", "Dp4{@1{T41;}}M{}", "M{Y{T01;}K0a{}}", "Dp0{Pp;}M{}",
            "Dp12{Y{T01;}K0a{T11;}F{?1{T21;}{}}}M{}", "Dp1{Y{T01;}K0a{Y{T11;}K1b{X;}}}M{}",
            "Dp0{Y{T01;}K0a{Y{T11;}K1b{}F{X;}}}M{}", "Dp3{}M{Y{Pp;}K3a{}}", "Dp0{Y{T01;}K0a{Y{X;}F{}}}M{}",
            "M{Y{Y{T01;}F{T11;}}K0a{}K1a{}}");
    }

    private static void findsWhatIsCaughtInVain() {
        due(5, "M{Y{}K0a{}}", "M{Y{T01;}K1a{}}", "M{Y{T01;}K0a{}K1a{}}", "M{Y{Y{T01;}K0a{}}K0a{}}",
            "M{Y{Y{T01;}K0a{}F{}}K0a{}}", "Dp{}M{Y{Pp;}K0a{}}", "M{Y{!1/0;}K0a{}}", "Dp0{Y{}K0a{}}M{}",
            "M{Y{Y{T01;}K0a{T11;}}K0a{}K1a{}}", "M{?0{Y{}K0a{}}{}}");
        due(0, "M{Y{?1{T01;}{T11;}}K0a{}K1a{}}", "Dp0{}M{Y{Pp;}K0a{}}", "M{Y{Y{T01;}K0a{X;}}K0a{}}",
            "M{Y{Y{T01;}K0a{T11;}}K1a{}}", "M{Y{Y{T01;}F{T11;}}K1a{}K0b{}}");
    }

    private static void readsLongTexts() {
        String most = "a=1;".repeat(39);
        CHECKS.dueCompile("M{" + most + "}", 0);
        CHECKS.dueCompile("M{" + most + "}}", 1);
        CHECKS.dueCompile("M{" + most + "R", 1);
        CHECKS.dueCompile("M{" + "B;".repeat(78) + "}", 2);
        CHECKS.dueCompile("M{" + "B;".repeat(79), 1);
        CHECKS.dueCompile("M{" + "{}".repeat(79), 1);
        CHECKS.dueCompile("M{!1" + "+1".repeat(77) + ";}", 0);
        CHECKS.dueCompile("M" + "{".repeat(159), 1);
        CHECKS.dueCompile("M{!" + "(".repeat(157), 1);
        CHECKS.dueCompile("M{Y{T01;}" + "K0a{}".repeat(30) + "}", 1);
        CHECKS.dueCompile("M{" + "Y{T01;}K0a{}".repeat(13) + "}", 0);
        CHECKS.dueCompile("M{" + "Y{}F{}".repeat(26) + "}", 0);
        CHECKS.dueCompile("1".repeat(160), 1);
    }

    private static void changesProgramAndRun() {
        LeavingMachine machine = CHECKS.dueTrap("Dp{}M{a=3;!a;Pp;!1/0;}", 5, 3);
        CHECKS.due("compile again", machine.compile(), 0);
        CHECKS.due("look(0), as the text stays", machine.look(0), 22);
        dueNoRun(machine);
        CHECKS.due("run of what was compiled twice", machine.run(100), 2);
        CHECKS.retype(machine, "M{R;!1;}");
        CHECKS.due("look(3) before compile", machine.look(3), 4);
        CHECKS.due("compile of a wrong text", machine.compile(), 4);
        CHECKS.due("look(0), as a wrong text stays", machine.look(0), 8);
        CHECKS.due("look(1) without a program", machine.look(1), 0);
        CHECKS.due("look(2) without a program", machine.look(2), 0);
        CHECKS.due("look(3) without a program", machine.look(3), 0);
        CHECKS.dueThrow("run without a program", IllegalStateException.class, () -> machine.run(5));
        CHECKS.dueThrow("raises without a program", IllegalArgumentException.class, () -> machine.raises(0));
        dueNoRun(machine);
        CHECKS.retype(machine, "M{b=1;}");
        CHECKS.due("compile after a wrong one", machine.compile(), 0);
        CHECKS.due("look(3)", machine.look(3), 1);
        CHECKS.due("run after a wrong one", machine.run(5), 0);
    }

    private static void dueNoRun(LeavingMachine machine) {
        CHECKS.due("look(4) without a run", machine.look(4), LeavingMachine.NONE);
        for (int which = 5; which <= 7; which++) {
            CHECKS.due("look(" + which + ") without a run", machine.look(which), 0);
        }
        CHECKS.due("variable without a run", machine.variable(0), 0);
        CHECKS.dueThrow("out without a run", IndexOutOfBoundsException.class, () -> machine.out(0));
        CHECKS.dueThrow("raised without a run", IllegalStateException.class, () -> machine.raised(false));
    }
}
