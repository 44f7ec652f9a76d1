/** The edges of A RUN, but for what is raised, F blocks and the fuel, sentence by sentence. */
public final class EdgesOfRunTest {
    private static final Checks CHECKS = new Checks();
    private static final int MIN = Integer.MIN_VALUE;
    private static final int MAX = Integer.MAX_VALUE;
    // Statements that give a the least int, and b the greatest.
    private static final String EXTREMES = "a=512*512*512*16;b=a-1;";

    public static void main(String[] args) {
        beginsInMWithNothing();
        valuesWrap();
        lessIsOneOrZero();
        dividesAsJava();
        variableBecomesTheValue();
        valueIsPutOut();
        firstBlockIfNotZero();
        repeatsWhileNotZero();
        breakLeavesTheInnermost();
        continueGoesOnWithTheCondition();
        returnLeavesTheProcedure();
        returnEndsTheRun();
        procedureEndsAsByReturn();
        variablesAreOfAll();
        CHECKS.end();
    }

    private static LeavingMachine due(String text, int... outs) {
        return CHECKS.dueRun(text, 3000, 0, outs);
    }

    private static void beginsInMWithNothing() {
        CHECKS.sentence("A RUN begins in M's block, all variables 0, nothing put out.");
        due("M{!a;!b;!c;!d;!e;!f;!g;!h;}", 0, 0, 0, 0, 0, 0, 0, 0);
        due("Dp{!1;}Dq{!2;}Dr{!3;}M{!4;}", 4);
        due("Dp{!1;}M{}");
        LeavingMachine machine = due("Dp{!a;a=a+1;h=h-1;}M{Pp;Pp;}", 0, 1);
        for (int again = 0; again < 3; again++) {
            CHECKS.due("run again", machine.run(3000), 0);
            CHECKS.due("look(5) of a run again", machine.look(5), 2);
            CHECKS.due("out(0) of a run again", machine.out(0), 0);
            CHECKS.due("out(1) of a run again", machine.out(1), 1);
            CHECKS.due("variable(7) of a run again", machine.variable(7), -2);
        }
        dueAnewAfterEachOutcome();
    }

    /** A run that ended in the midst of loops, procedures and catches leaves nothing to the next one. */
    private static void dueAnewAfterEachOutcome() {
        String text = "Dp0{a=a+1;?a<5{Pp;}{}!a;Y{T0a;}K0b{!b/(a-6);X;}}M{Y{@1{Pp;}}K0c{}d=1;}";
        String whole = null;
        for (int fuel : new int[] {3000, 0, 3000, 1, 3000, 7, 3000, 12, 3000, 21, 3000}) {
            LeavingMachine machine = CHECKS.compiled(text);
            machine.run(3000);
            whole = whole == null ? Checks.seen(machine) : whole;
            machine.run(fuel);
            machine.run(3000);
            CHECKS.due("all of a run behind run(" + fuel + ")", Checks.seen(machine), whole);
        }
        LeavingMachine trapped = CHECKS.dueTrap("Dp{a=a+1;Pp;}M{Pp;}", 6);
        for (int again = 0; again < 3; again++) {
            CHECKS.due("run again behind a trap", trapped.run(3000), 2);
            CHECKS.due("a of a run again", trapped.variable(0), 8);
            CHECKS.due("look(7) of a run again", trapped.look(7), 8);
        }
    }

    private static void valuesWrap() {
        CHECKS.sentence("Values are ints and wrap");
        due("M{" + EXTREMES + "!a;!b;!a-1;!b+1;!0-a;!a*(0-1);!b*2;!a+a;!b+b+2;!a*a;!b*b;}",
            MIN, MAX, MAX, MIN, MIN, MIN, -2, 0, 0, 0, 1);
        due("M{!999*999*999;!999*999*999*999;!0-999*999*999*999;}", 999 * 999 * 999, 999 * 999 * 999 * 999,
            -999 * 999 * 999 * 999);
        due("M{a=2;@c<31{c=c+1;b=b+b+1;}!b;!b+1;!b+1+b;!b+a;}", MAX, MIN, -1, MAX + 2);
        // As longs these would be other values.
        due("M{a=256*256*256*128;!a/2;!a+a/3;!a*2/2;!a-1/2;!a*a+5;}", MIN / 2, 0, 0, MAX / 2, 5);
    }

    private static void lessIsOneOrZero() {
        CHECKS.sentence("< is 1 or 0");
        due("M{!1<2;!2<2;!3<2;!0-1<0;!0<(0-1);!0<0;!(0-2)<(0-1);!(0-1)<(0-2);}", 1, 0, 0, 1, 0, 0, 1, 0);
        due("M{" + EXTREMES + "!a<b;!b<a;!a<a;!b<b;!a<1;!1<a;!b<(0-1);!0-1<b;}", 1, 0, 0, 0, 1, 0, 0, 1);
        due("M{!1<2*7;!5+(3<4);!1<2<3;!3<2<1;!2<1<0;}", 7, 6, 1, 1, 0);
    }

    private static void dividesAsJava() {
        CHECKS.sentence("/ is as in Java");
        due("M{!7/2;!0-7/2;!7/(0-2);!0-7/(0-2);!1/2;!0-1/2;!0/5;!6/3;!0-6/3;}", 3, -3, -3, 3, 0, 0, 0, 2, -2);
        due("M{" + EXTREMES + "!a/(0-1);!a/1;!b/(0-1);!a/b;!b/a;!a/a;!a/2;!a/10;}",
            MIN, MIN, -MAX, -1, 0, 1, MIN / 2, MIN / 10);
    }

    private static void variableBecomesTheValue() {
        CHECKS.sentence("v = : the variable becomes the value.");
        due("M{a=5;a=a+a;!a;a=a;!a;b=a;a=1;!b;!a;a=0;!a;}", 10, 10, 10, 1, 0);
        due("M{" + EXTREMES + "c=a;d=b;!c;!d;}", MIN, MAX);
        LeavingMachine machine = due("M{a=1;b=2;c=3;d=4;e=5;f=6;g=7;h=8;}");
        for (int k = 0; k < 8; k++) {
            CHECKS.due("variable(" + k + ")", machine.variable(k), k + 1);
        }
    }

    private static void valueIsPutOut() {
        CHECKS.sentence("! : the value is put out.");
        due("M{!0;}", 0);
        due("M{!1;!1;!0-1;!a;a=3;!a;}", 1, 1, -1, 0, 3);
        due("M{" + EXTREMES + "!a;!b;}", MIN, MAX);
        int[] all = new int[24];
        for (int i = 0; i < 24; i++) {
            all[i] = 100 - i;
        }
        due("M{@a<24{!100-a;a=a+1;}}", all);
    }

    private static void firstBlockIfNotZero() {
        CHECKS.sentence("? : the first block if the value is not 0, else the second one.");
        due("M{?0{!1;}{!2;}}", 2);
        due("M{?1{!1;}{!2;}}", 1);
        due("M{?2{!1;}{!2;}?999{!1;}{!2;}?0-1{!1;}{!2;}?a{!1;}{!2;}?0*5{!1;}{!2;}}", 1, 1, 1, 2, 2);
        due("M{" + EXTREMES + "?a{!1;}{!2;}?b{!1;}{!2;}?a+a{!1;}{!2;}?a*2{!1;}{!2;}}", 1, 1, 2, 2);
        due("M{?1{}{!2;}?0{!1;}{}!3;}", 3);
        // The value is asked once: what the block changes does not count.
        due("M{a=1;?a{a=0;!1;}{!2;}?a{!3;}{a=1;!4;}}", 1, 4);
    }

    private static void repeatsWhileNotZero() {
        CHECKS.sentence("@ : as long as the value is not 0, its block.");
        due("M{@0{!1;}!2;}", 2);
        due("M{@a{!1;}!2;}", 2);
        due("M{a=1;@a{!a;a=0;}!2;}", 1, 2);
        due("M{a=3;@a{!a;a=a-1;}}", 3, 2, 1);
        due("M{a=0-2;@a{!a;a=a+1;}}", -2, -1);
        due("M{a=512*512*512*16;@a{!a;a=a+a;}!a;}", MIN, 0);
        due("M{@a<3{a=a+1;@0{}}!a;}", 3);
        due("M{@a<2{a=a+1;b=2;@b{!a*10+b;b=b-1;}}}", 12, 11, 22, 21);
    }

    private static void breakLeavesTheInnermost() {
        CHECKS.sentence("B LEAVES the innermost @");
        due("M{@1{B;}!1;}", 1);
        due("M{@a<2{a=a+1;@1{B;}!a;}!9;}", 1, 2, 9);
        due("M{@a<3{a=a+1;@1{?a<2{B;}{}!a;B;}B;}!a;}", 1);
        due("M{@1{@0{}B;}!1;}", 1);
        due("M{@1{?1{?1{B;}{}}{}!8;}!1;}", 1);
        due("Dp{@1{B;}!1;}M{@a<2{a=a+1;Pp;!2;}}", 1, 2, 1, 2);
        due("M{@1{Y{T05;}K0a{B;}!8;}!a;}", 5);
        due("M{Y{@1{B;}T05;}K0a{@1{B;}!a;}F{@1{B;}!6;}}", 5, 6);
    }

    private static void continueGoesOnWithTheCondition() {
        CHECKS.sentence("C goes on with its condition");
        due("M{@a<3{a=a+1;C;}!a;}", 3);
        due("M{@a<3{a=a+1;?a<3{C;}{}!a;}!9;}", 3, 9);
        due("M{@a<2{a=a+1;b=0;@b<2{b=b+1;C;}!b;}!a;}", 2, 2, 2);
        due("M{a=1;@a{a=0;C;}!1;}", 1);
        due("M{@a<2{a=a+1;Y{T0a;}K0b{C;}!8;}!b;}", 2);
        CHECKS.dueTrap("M{a=1;@6/a{a=a-1;C;}}", 5);
    }

    private static void returnLeavesTheProcedure() {
        CHECKS.sentence("R leaves the procedure, or ends the run from M.");
        due("Dp{R;}M{Pp;!1;}", 1);
        due("Dp{@1{?1{Y{R;}F{}}{}}!8;}M{Pp;!1;}", 1);
        due("Dp{Pq;!2;R;}Dq{!1;R;}M{Pp;!3;}", 1, 2, 3);
        due("Dp{R;}M{@a<3{a=a+1;Pp;}!a;}", 3);
        due("Dp{@1{R;}!8;}M{@a<2{a=a+1;Pp;!a;}}", 1, 2);
        due("Dp{Y{T05;}K0a{R;}!8;}M{Pp;!a;}", 5);
        due("Dp{a=a+1;?a<8{Pp;}{R;}!a;R;}M{Pp;}", 8, 8, 8, 8, 8, 8, 8);
    }

    private static void returnEndsTheRun() {
        CHECKS.sentence("R leaves the procedure, or ends the run from M.");
        CHECKS.due("look(6) of M{R;}", due("M{R;}").look(6), 1);
        due("M{!1;?1{@1{Y{R;}F{}}}{}!2;}", 1);
        due("M{@1{@1{R;}}!2;}");
        due("M{Y{T05;}K0a{!a;R;}!8;}", 5);
        due("M{Y{}F{R;}!8;}");
        due("Dp{!1;}M{Pp;R;}", 1);
    }

    private static void procedureEndsAsByReturn() {
        CHECKS.sentence("P: the procedure's block; its end is as R.");
        due("Dp{}M{Pp;!1;}", 1);
        due("Dp{!1;}M{Pp;Pp;!2;}", 1, 1, 2);
        due("Dp{}M{@a<20{a=a+1;Pp;}!a;}", 20);
        due("Dr{!3;}Dp{!1;Pq;Pr;}Dq{!2;}M{Pp;Pr;}", 1, 2, 3, 3);
        due("Dp{?a{a=a-1;Pp;!a;}{!9;}}M{a=2;Pp;}", 9, 0, 0);
        due("Dp{Pq;!1;}Dq{Pr;!2;}Dr{!3;}M{Pp;!4;}", 3, 2, 1, 4);
    }

    private static void variablesAreOfAll() {
        CHECKS.sentence("v is a VARIABLE a .. h.");
        due("Dp{a=a+1;b=7;}M{a=5;Pp;!a;!b;}", 6, 7);
        due("Dp{?a<4{a=a+1;Pp;}{}b=b+a;}M{Pp;!a;!b;}", 4, 20);
    }
}
