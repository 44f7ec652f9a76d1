/** The edges of what is RAISED, of catches and of TRAPs, sentence by sentence. */
public final class EdgesOfRaisingTest {
    private static final Checks CHECKS = new Checks();
    private static final int MIN = Integer.MIN_VALUE;

    public static void main(String[] args) {
        raisesItsTagWithTheValue();
        raisesAnewWhatWasTaken();
        leavesBlocksLoopsAndProcedures();
        onlyFromTheFirstBlock();
        hasACatchForItsTag();
        variableBecomesItsValue();
        noCatchTakesATrap();
        divisionByZero();
        eightProceduresUnderWay();
        leftProceduresAreNotUnderWay();
        twentyFifthValue();
        aTrapsValueIsZero();
        CHECKS.end();
    }

    private static LeavingMachine due(String text, int... outs) {
        return CHECKS.dueRun(text, 3000, 0, outs);
    }

    private static void raisesItsTagWithTheValue() {
        CHECKS.sentence("T RAISES its tag with the value");
        for (int tag = 0; tag < 5; tag++) {
            due("M{Y{T" + tag + "7;}K" + tag + "a{!a;}}", 7);
        }
        due("M{Y{T00;}K0a{!a;!1;}}", 0, 1);
        due("M{Y{T00-1;}K0a{!a;}Y{T0512*512*512*16;}K0a{!a;}Y{T0a-1;}K0a{!a;}}", -1, MIN, MIN - 1);
        due("M{Y{T4999;}K4a{!a;}Y{T012;}K0a{!a;}Y{T0(1)+2;}K0a{!a;}}", 999, 12, 3);
        due("M{a=4;Y{T0a;}K0b{a=9;!b;}}", 4);
    }

    private static void raisesAnewWhatWasTaken() {
        CHECKS.sentence("X RAISES anew what the innermost K block took.");
        due("M{Y{Y{T04;}K0a{X;}}K0b{!b;}}", 4);
        due("M{Y{Y{T04;}K0a{a=9;X;}}K0b{!b;!a;}}", 4, 9);
        due("M{Y{Y{T04;}K0a{a=9;X;}}K0a{!a;}}", 4);
        due("M{Y{Y{T00-5;}K0a{X;}}K0b{!b;}}", -5);
        due("Dp1{Y{T01;}K0a{Y{T12;}K1b{X;}}}M{Y{Pp;}K1c{!c;}}", 2);
        due("Dp0{Y{T01;}K0a{Y{T12;}K1b{}X;}}M{Y{Pp;}K0c{!c;}}", 1);
        due("Dp0{Y{T01;}K0a{Y{T12;}K1b{}F{X;}}}M{Y{Pp;}K0c{!c;}}", 1);
        due("Dp0{Y{T01;}K0a{Y{X;}K0b{!b;X;}}}M{Y{Pp;}K0c{!c+1;}}", 1, 2);
        due("Dp0{Y{T03;}K0a{Y{T04;}K0b{X;}}}M{Y{Pp;}K0c{!c;}}", 4);
        due("Dp0{Y{T03;}K0a{Y{T04;}K0b{}X;}}M{Y{Pp;}K0c{!c;}}", 3);
        due("Dp0{Y{T03;}K0a{@1{?1{X;}{}}}}M{Y{Pp;}K0c{!c;}}", 3);
        // Procedures that raise and take things of their own come between the taking and the X.
        due("Dp0{Y{T03;}K0a{Pq;X;}}Dq{Y{T18;}K1a{}}M{Y{Pp;}K0c{!c;}!a;}", 3, 8);
        due("Dp0{Y{T0a;}K0b{a=a-1;?a{Y{Pp;}K0c{!c;}}{}X;}}M{a=3;Y{Pp;}K0d{!d;}}", 1, 2, 3);
        due("Dp0{Y{T03;}K0a{Y{}F{X;}}}M{Y{Pp;}K0c{!c;}}", 3);
    }

    private static void leavesBlocksLoopsAndProcedures() {
        CHECKS.sentence("What is RAISED leaves blocks, @ and procedures until a Y whose first block it leaves");
        due("M{Y{?1{?1{T05;}{}!8;}{}!8;}K0a{!a;}!1;}", 5, 1);
        due("M{Y{@1{@1{T05;}!8;}!8;}K0a{!a;}!1;}", 5, 1);
        due("Dp0{T05;}Dq0{Pp;!8;}Dr0{@1{Pq;!8;}!8;}M{Y{Pr;!8;}K0a{!a;}!1;}", 5, 1);
        due("Dp0{a=a+1;?a<8{Pp;}{T0a;}!9;}M{Y{Pp;!9;}K0b{!b;}}", 8);
        due("M{@a<3{a=a+1;Y{T0a;}K0b{!b;}}!9;}", 1, 2, 3, 9);
        due("M{Y{Y{Y{T05;}F{}!8;}F{}!8;}K0a{!a;}!1;}", 5, 1);
    }

    private static void onlyFromTheFirstBlock() {
        CHECKS.sentence("until a Y whose first block it leaves has a catch for its tag");
        due("M{Y{Y{T05;}K0a{T06;}}K0b{!b;}!a;}", 6, 5);
        due("M{Y{Y{T05;}K0a{X;}}K0b{!b;}}", 5);
        due("M{Y{Y{?1{T05;}{T17;}}K0a{T16;}K1c{!8;}}K1b{!b;}!c;}", 6, 0);
        due("M{Y{Y{?0{T05;}{}}K0a{!8;}F{T06;}}K0b{!b;}!a;}", 6, 0);
        due("Dp0{Y{T05;}K0a{Pq;!8;}}Dq0{T06;}M{Y{Pp;}K0b{!b;}}", 6);
        due("M{Y{T05;}K0a{Y{T06;}K0b{!b;}}!a;}", 6, 5);
    }

    private static void hasACatchForItsTag() {
        CHECKS.sentence("has a catch for its tag");
        for (int tag = 0; tag < 5; tag++) {
            int other = (tag + 1) % 5;
            int third = (tag + 3) % 5;
            String raising = "?a{T" + other + "3;}{T" + tag + "5;}";
            due("M{Y{" + raising + "}K" + other + "b{!8;}K" + tag + "c{!c;}!b;}", 5, 0);
            due("M{Y{" + raising + "}K" + tag + "c{!c;}K" + other + "b{!8;}!b;}", 5, 0);
            due("M{Y{Y{" + raising + "}K" + other + "b{!8;}!8;}K" + tag + "c{!c;}!b;}", 5, 0);
            due("M{Y{?b{T" + third + "1;}{}" + raising + "}K" + third + "d{!8;}K" + other + "b{!8;}K" + tag + "c{!c;}}", 5);
        }
        due("M{Y{Y{T05;}K0a{!1;}!2;}F{!3;}}", 1, 2, 3);
        due("Dp01{T15;}M{Y{Y{Pp;}K0a{!8;}}K1b{!b;}!a;}", 5, 0);
    }

    private static void variableBecomesItsValue() {
        CHECKS.sentence("then that one's variable becomes its value, and its block is done");
        for (int k = 0; k < 8; k++) {
            char name = (char) ('a' + k);
            LeavingMachine machine = due("M{" + name + "=3;Y{T0" + name + "*5;}K0" + name + "{}}");
            for (int other = 0; other < 8; other++) {
                CHECKS.due("variable(" + other + ")", machine.variable(other), other == k ? 15 : 0);
            }
        }
        due("M{a=7;Y{T00;}K0a{!a;}!a;}", 0, 0);
        due("M{a=7;Y{?0{T05;}{}}K0a{!8;}!a;}", 7);
        due("M{Y{T05;}K0a{}!a;}", 5);
        due("M{Y{T05;}K0a{a=a+1;}!a;}", 6);
    }

    private static void noCatchTakesATrap() {
        CHECKS.sentence("It may also be a TRAP, which no catch takes");
        CHECKS.dueTrap("Dp01234{!1/0;}M{Y{Y{Pp;}K0a{!8;}K1a{!8;}K2a{!8;}}K3a{!8;}K4a{!8;}}", 5);
        CHECKS.dueTrap("Dp01234{Pp;}M{Y{Y{Pp;}K0a{!8;}K1a{!8;}K2a{!8;}}K3a{!8;}K4a{!8;}}", 6);
        CHECKS.dueTrap("Dp0{@1{b=b+1;?b<25{}{!b;}?b<50{}{B;}}}M{Y{Pp;}K0a{!8;}}", 7, 25, 26, 27, 28, 29, 30, 31, 32, 33, 34,
            35, 36, 37, 38, 39, 40, 41, 42, 43, 44, 45, 46, 47, 48);
        LeavingMachine machine = CHECKS.dueTrap("M{a=3;Y{?1{a=1/0;}{T01;}}K0a{!8;}!8;}", 5);
        CHECKS.due("the catch's variable", machine.variable(0), 3);
        CHECKS.dueTrap("M{Y{T01;}K0a{Y{?a{!1/0;}{T02;}}K0b{!8;}}}", 5);
    }

    private static void divisionByZero() {
        CHECKS.sentence("5 for / by 0");
        CHECKS.dueTrap("M{!1/0;}", 5);
        CHECKS.dueTrap("M{!0/0;}", 5);
        CHECKS.dueTrap("M{!0*(1/0);}", 5);
        CHECKS.dueTrap("M{!1/0*0<1;}", 5);
        CHECKS.dueTrap("M{!5/(3-3);}", 5);
        CHECKS.dueTrap("M{!1/(1/2);}", 5);
        CHECKS.dueTrap("M{a=256*256*256*256;!1/a;}", 5);
        CHECKS.dueTrap("M{a=512*512*512*16;!a/(a+a);}", 5);
        CHECKS.dueTrap("M{!7;?1/a{!8;}{!8;}}", 5, 7);
        CHECKS.dueTrap("M{!7;@1/a{!8;}!8;}", 5, 7);
        CHECKS.dueTrap("M{a=2;@6/a{!a;a=a-1;}!8;}", 5, 2, 1);
        CHECKS.dueTrap("M{Y{T01/a;}K0b{!8;}!8;}", 5);
        LeavingMachine machine = CHECKS.dueTrap("M{b=5;b=b/a;b=6;}", 5);
        CHECKS.due("b, which was not changed", machine.variable(1), 5);
        due("M{!0/1;!0/(0-1);!0-1/1;}", 0, 0, -1);
    }

    private static void eightProceduresUnderWay() {
        CHECKS.sentence("6 for a P when 8 procedures are under way");
        for (int deep = 1; deep <= 8; deep++) {
            LeavingMachine machine = due("Dp{a=a+1;?a<" + deep + "{Pp;}{!a;}}M{Pp;}", deep);
            CHECKS.due("look(7)", machine.look(7), deep);
        }
        LeavingMachine machine = CHECKS.dueTrap("Dp{a=a+1;?a<9{Pp;}{!a;}}M{Pp;}", 6);
        CHECKS.due("a, so the ninth was not begun", machine.variable(0), 8);
        CHECKS.due("look(7)", machine.look(7), 8);
        CHECKS.due("look(6), as the ninth P costs too", machine.look(6), 1 + 3 * 8);
        CHECKS.dueTrap("Dp{Pp;}M{Pp;}", 6);
        CHECKS.dueTrap("Dp{a=a+1;Pq;}Dq{a=a+1;Pr;}Dr{a=a+1;Pp;}M{Pr;}", 6);
        CHECKS.dueTrap("Dp{Pq;}Dq{!1;Pp;}M{Pp;}", 6, 1, 1, 1, 1);
        CHECKS.dueTrap("Dp0{Y{T01;}K0a{Pp;}}M{Y{Pp;}K0b{!8;}}", 6);
        CHECKS.dueTrap("Dp{Y{}F{Pp;}}M{Pp;}", 6);
        // 8 of them, with as many blocks as can be around each call.
        due("Dp{a=a+1;Y{}F{Y{}F{?a<8{Pp;}{}}}}M{Y{}F{Y{}F{Y{}F{Pp;}}}!a;}", 8);
        CHECKS.due("look(7)", CHECKS.dueTrap("Dp{Y{}F{Y{}F{Y{}F{Pp;}}}}M{Y{}F{Y{}F{Y{}F{Pp;}}}}", 6).look(7), 8);
    }

    private static void leftProceduresAreNotUnderWay() {
        CHECKS.sentence("6 for a P when 8 procedures are under way");
        due("Dp{}M{@a<30{a=a+1;Pp;}!a;}", 30);
        due("Dp{R;}M{@a<30{a=a+1;Pp;}!a;}", 30);
        due("Dp{@1{?1{R;}{}}}M{@a<30{a=a+1;Pp;}!a;}", 30);
        due("Dp0{T0a;}M{@a<30{a=a+1;Y{Pp;}K0b{}}!a;}", 30);
        due("Dp0{Pq;}Dq0{T0a;}M{@a<30{a=a+1;Y{Pp;}K0b{}}!a;}", 30);
        due("Dp{!1/0;}M{@a<30{a=a+1;Y{Pp;}F{C;}}!a;}", 30);
        due("Dp{Pp;}M{@a<30{a=a+1;Y{Pp;}F{C;}}!a;}", 30);
        due("Dp0{Y{T01;}F{R;}}M{@a<30{a=a+1;Y{Pp;}K0b{!8;}}!a;}", 30);
        // When what was raised has left the procedures, the catch and the F block may call eight again.
        due("Dp0{a=a+1;?a<8{Pp;}{T0a;}}Dq{b=b+1;?b<8{Pq;}{}}M{Y{Pp;}K0c{Pq;}F{b=0;Pq;}!b;}", 8);
        CHECKS.due("look(7)", due("Dp0{Pq;}Dq0{Pr;}Dr0{T01;}M{Y{Pp;}K0a{Y{Pp;}K0b{}}}").look(7), 3);
        // In the eighth procedure's F block there are still eight under way.
        CHECKS.dueTrap("Dp{a=a+1;Y{?a<8{Pp;}{}}F{?a-8{}{Pp;}}}M{Pp;}", 6);
    }

    private static void twentyFifthValue() {
        CHECKS.sentence("7 for a 25th value put out");
        for (int values = 22; values <= 26; values++) {
            LeavingMachine machine = CHECKS.compiled("M{@a<" + values + "{!a+1;a=a+1;}}");
            CHECKS.due("run with " + values + " values", machine.run(3000), values <= 24 ? 0 : 2);
            CHECKS.due("look(5)", machine.look(5), Math.min(values, 24));
            CHECKS.due("out(21)", machine.out(21), 22);
            CHECKS.due("the last value", machine.out(machine.look(5) - 1), Math.min(values, 24));
            CHECKS.due("a", machine.variable(0), Math.min(values, 24));
        }
        int[] all = new int[24];
        java.util.Arrays.fill(all, 5);
        CHECKS.dueTrap("M{@a<24{!5;a=a+1;}!6;}", 7, all);
        CHECKS.dueTrap("Dp{!5;}M{@1{Pp;}}", 7, all);
        CHECKS.dueTrap("M{@a<24{!5;a=a+1;}Y{!6;}F{!7;}}", 7, all);
        CHECKS.dueTrap("M{@a<24{!5;a=a+1;}Y{!6;}F{b=1;}b=2;}", 7, all);
        CHECKS.dueRun("M{@a<24{!5;a=a+1;}@1{Y{!6;}F{B;}}}", 3000, 0, all);
        LeavingMachine again = CHECKS.dueTrap("M{@1{!5;}}", 7, all);
        CHECKS.due("run with fuel for 24", again.run(1 + 2 * 24), 1);
        CHECKS.due("run with fuel for one more question", again.run(2 + 2 * 24), 1);
        CHECKS.due("run with fuel for the 25th", again.run(3 + 2 * 24), 2);
    }

    private static void aTrapsValueIsZero() {
        CHECKS.sentence("its value is 0");
        String taken = "Y{T09;}K0a{}";
        CHECKS.dueTrap("M{" + taken + "!7/b;}", 5);
        CHECKS.dueTrap("Dp{Pp;}M{" + taken + "Pp;}", 6);
        CHECKS.due("raised(true)", CHECKS.dueTrap("M{" + taken + "@1{!9;}}", 7, 9, 9, 9, 9, 9, 9, 9, 9, 9, 9, 9, 9, 9, 9, 9, 9,
            9, 9, 9, 9, 9, 9, 9, 9).raised(true), 0);
        CHECKS.dueTrap("M{Y{!1/0;}F{" + taken + "}}", 5);
        CHECKS.dueTrap("M{Y{T09;}K0a{Y{!1/0;}F{" + taken + "}}}", 5);
        CHECKS.dueTrap("M{Y{Y{T09;}F{!1/0;}}K0a{!8;}}", 5);
    }
}
