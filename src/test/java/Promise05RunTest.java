/** Promise 5: run, with A RUN, RAISES, TRAP, the F block, the FUEL and the OUTCOME. */
public final class Promise05RunTest {
    private static final Checks CHECKS = new Checks();

    public static void main(String[] args) {
        refusesOtherFuel();
        beginsAnew();
        worksOutValues();
        choosesAndRepeats();
        leavesLoops();
        callsProcedures();
        takesWhatIsRaised();
        raisesAnew();
        doesLastBlocks();
        lastBlocksCount();
        traps();
        trapsGoThroughLastBlocks();
        paysWithFuel();
        CHECKS.end();
    }

    private static void due(String text, int... outs) {
        CHECKS.dueRun(text, 3000, 0, outs);
    }

    private static void refusesOtherFuel() {
        LeavingMachine machine = CHECKS.dueRun("M{!5;a=2;}", 3000, 0, 5);
        for (int fuel : new int[] {-1, 3001, Integer.MIN_VALUE, Integer.MAX_VALUE}) {
            CHECKS.dueThrow("run(" + fuel + ")", IllegalArgumentException.class, () -> machine.run(fuel));
        }
        CHECKS.due("look(4) after what was refused", machine.look(4), 0);
        CHECKS.due("look(6) after what was refused", machine.look(6), 2);
        CHECKS.due("variable after what was refused", machine.variable(0), 2);
        CHECKS.due("out after what was refused", machine.out(0), 5);
        CHECKS.dueThrow("run(5) without a program", IllegalStateException.class, () -> new LeavingMachine().run(5));
        CHECKS.dueThrow("run(-1) without a program", IllegalArgumentException.class,
            () -> new LeavingMachine().run(-1));
    }

    private static void beginsAnew() {
        LeavingMachine machine = CHECKS.dueTrap("Dp{a=a+1;!a;}M{Pp;Pp;b=7;!b/c;}", 5, 1, 2);
        CHECKS.due("run again", machine.run(3), 1);
        CHECKS.due("a after less fuel", machine.variable(0), 1);
        CHECKS.due("b after less fuel", machine.variable(1), 0);
        CHECKS.due("look(5) after less fuel", machine.look(5), 1);
        CHECKS.due("out(0) after less fuel", machine.out(0), 1);
        CHECKS.dueThrow("raised after less fuel", IllegalStateException.class, () -> machine.raised(false));
        CHECKS.due("run(0)", machine.run(0), 1);
        CHECKS.due("look(5) after run(0)", machine.look(5), 0);
        CHECKS.due("look(7) after run(0)", machine.look(7), 0);
        CHECKS.due("a after run(0)", machine.variable(0), 0);
    }

    private static void worksOutValues() {
        due("M{!1+2*3;!7-2-1;!2*3+4;!9/2/2;!1+(2*3);!2<3;!3<3;!4<3;}", 9, 4, 10, 2, 7, 1, 0, 0);
        due("M{!0-7/2;!0-7/(0-2);!7/(0-2);!3<2<1;!1+2<3*5;!(1+(2+(3*4)))*2;!007;!0/5;}", -3, 3, -3, 1, 0, 30, 7, 0);
        due("M{a=256*256*256*127;b=a+a;!b;!b*2;!b+b+b;!a*a;}", 2130706432 * 2, 2130706432 * 4, 2130706432 * 6,
            2130706432 * 2130706432);
        due("M{a=2*512*512*512*8;!a;!a/(0-1);!a-1;!a<0;!0<a;!0-a;}", Integer.MIN_VALUE, Integer.MIN_VALUE,
            Integer.MAX_VALUE, 1, 0, Integer.MIN_VALUE);
        due("M{a=1;b=2;c=3;d=4;e=5;f=6;g=7;h=8;a=a+h;!a;!b+c;!d+e;!f+g;!h;}", 9, 5, 9, 13, 8);
        due("M{!1-(2-(3-(4-5)));!(1)+((2))+(((3)));!1<2+(2<1);}", 3, 6, 1);
    }

    private static void choosesAndRepeats() {
        due("M{?1{!1;}{!2;}?0{!3;}{!4;}?0-1{!5;}{!6;}}", 1, 4, 5);
        due("M{@a<3{!a;a=a+1;}!9;}", 0, 1, 2, 9);
        due("M{@0{!1;}!2;}", 2);
        due("M{a=0-2;@a{!a;a=a+1;}}", -2, -1);
        due("M{@a<2{b=0;@b<2{!a*10+b;b=b+1;}a=a+1;}}", 0, 1, 10, 11);
    }

    private static void leavesLoops() {
        due("M{@1{a=a+1;?a<3{C;}{}!a;B;}!9;}", 3, 9);
        due("M{@a<2{a=a+1;@1{!a;B;}!7;}}", 1, 7, 2, 7);
        due("M{@a<2{a=a+1;b=0;@b<2{b=b+1;?b<2{C;}{}!b;}}}", 2, 2);
        due("M{@1{?1{Y{B;}F{!1;}}{}}!2;}", 1, 2);
        due("M{@a<2{a=a+1;Y{C;}F{!a;}}!5;}", 1, 2, 5);
        due("M{!1;?1{@1{R;}}{}!2;}", 1);
    }

    private static void callsProcedures() {
        due("Dp{!a;a=a+1;}M{Pp;Pp;!9;}", 0, 1, 9);
        due("Dp{@1{!1;R;}}M{Pp;!2;}", 1, 2);
        due("Dp{!1;?1{R;}{}!2;}M{@a<2{a=a+1;Pp;!3;}}", 1, 3, 1, 3);
        due("Dp{a=a+1;?a<8{Pp;}{}!a;a=a-1;}M{Pp;}", 8, 7, 6, 5, 4, 3, 2, 1);
        due("Dp{!1;Pq;!3;}Dq{!2;}M{Pp;Pq;}", 1, 2, 3, 2);
        due("Dr{!4;}Dq{!5;Pr;}M{Pq;}", 5, 4);
        due("Dp{R;}M{@a<20{a=a+1;Pp;}!a;}", 20);
        due("Dp0{T0a;}M{@a<20{a=a+1;Y{Pp;}K0b{}}!a+b;}", 40);
    }

    private static void takesWhatIsRaised() {
        due("M{Y{!1;T05;}K0b{!b;}!2;}", 1, 5, 2);
        due("M{Y{!1;?0{T05;}{}}K0b{!b;}!2;}", 1, 2);
        due("M{Y{?a{T01;}{T12;}}K0b{!10;}K1c{!c;}!b;}", 2, 0);
        due("Dp01{?a{T07;}{T18;}}M{Y{Pp;}K1c{!c;}K0b{!0-b;}a=1;Y{Pp;}K1c{!c;}K0b{!0-b;}}", 8, -7);
        due("Dp0{@1{?1{T03;}{}}}Dq0{Pp;!1;}M{Y{Pq;!2;}K0a{!a;}}", 3);
        due("M{Y{Y{T04;}K0a{!a;T0a+1;}}K0b{!b;}}", 4, 5);
        due("M{Y{Y{?1{T04;}{T15;}}K1a{!1;}!2;}K0b{!b;}}", 4);
        due("M{a=3;Y{T0a*a;}K0a{!a;a=a+1;}!a;}", 9, 10);
        due("M{Y{?1{T01;}{T11;}}K0a{Y{T12;}K1b{!b;}}K1b{!99;}}", 2);
        due("Dp0{Y{T01;}K0a{T02;}}M{Y{Pp;}K0b{!b;}!a;}", 2, 1);
        due("M{@a<2{a=a+1;Y{T0a;}K0b{!b;C;}!9;}!5;}", 1, 2, 5);
        due("M{@1{Y{T0a;}K0b{!b;B;}!9;}!5;}", 0, 5);
        due("Dp{Y{T06;}K0b{!b;R;}!9;}M{Pp;!5;}", 6, 5);
    }

    private static void raisesAnew() {
        due("M{Y{Y{T04;}K0a{a=9;X;}}K0b{!b;}!a;}", 4, 9);
        due("M{Y{Y{T01;}K0a{Y{T02;}K0b{!b;}X;}}K0c{!c;}}", 2, 1);
        due("Dp0{Y{T01;}K0a{Y{T12;}K1b{}F{X;}}}M{Y{Pp;}K0c{!c;}}", 1);
        due("Dp1{Y{T01;}K0a{Y{T12;}K1b{X;}}}M{Y{Pp;}K1c{!c;}}", 2);
        due("Dp0{Y{T0a;}K0b{a=a-1;?a{Y{Pp;}K0c{!c;}}{}X;}}M{a=3;Y{Pp;}K0d{!d;}}", 1, 2, 3);
        due("Dp0{Y{T03;}K0b{@1{X;}}}M{Y{Pp;}K0d{!d;}}", 3);
        due("Dp0{Y{T03;}K0b{Pq;X;}}Dq{Y{T18;}K1b{}}M{Y{Pp;}K0d{!d;}!b;}", 3, 8);
        due("Dp0{Y{T03;}K0b{Y{X;}K0c{!c;X;}}}M{Y{Pp;}K0d{!d+1;}}", 3, 4);
    }

    private static void doesLastBlocks() {
        due("M{Y{!1;}F{!2;}!3;}", 1, 2, 3);
        due("M{Y{!1;R;}F{!2;}!3;}", 1, 2);
        due("Dp{Y{!1;R;}F{!2;}!3;}M{Pp;!4;}", 1, 2, 4);
        due("M{Y{T01;}K0a{!1;}F{!2;}!3;}", 1, 2, 3);
        due("M{Y{?0{T01;}{}}K0a{!1;}F{!2;}!3;}", 2, 3);
        due("M{Y{T01;}K0a{!1;R;}F{!2;}!3;}", 1, 2);
        due("M{Y{Y{T05;}F{!1;}!2;}K0a{!a;}}", 1, 5);
        due("M{Y{Y{T05;}K0a{T16;}F{!1;}!2;}K1a{!a;}}", 1, 6);
        due("M{Y{Y{T05;}K0a{X;}F{!1;}!2;}K0b{!b;}}", 1, 5);
        due("M{@a<2{a=a+1;Y{T05;}K0b{C;}F{!a;}}!9;}", 1, 2, 9);
        due("M{@1{Y{T05;}K0b{B;}F{!1;}}!9;}", 1, 9);
        due("M{Y{Y{Y{T05;}F{!1;}}F{!2;}}K0a{!a;}F{!3;}}", 1, 2, 5, 3);
        due("Dp0{Y{T01;}F{!1;}}Dq0{Y{Pp;}F{!2;}}M{Y{Pq;}K0a{!3;}F{!4;}}", 1, 2, 3, 4);
        due("M{Y{Y{T05;}F{Y{T17;}K1b{!b;}}}K0a{!a;}}", 7, 5);
        due("M{Y{Y{T05;}F{@1{B;}}}K0a{!a;}}", 5);
        due("Dp{R;}M{Y{Y{T05;}F{Pp;}}K0a{!a;}}", 5);
        due("M{@1{Y{B;}F{@a<2{a=a+1;C;}}}!a;}", 2);
        due("Dp{Y{R;}F{Y{T17;}K1b{!b;}}!9;}M{Pp;!4;}", 7, 4);
    }

    private static void lastBlocksCount() {
        due("Dp0{Y{T01;}F{R;}}M{Y{Pp;!1;}K0a{!2;}!a;}", 1, 0);
        due("Dp0{@1{Y{T01;}F{B;}}!3;}M{Y{Pp;!1;}K0a{!2;}}", 3, 1);
        due("Dp0{@a<2{a=a+1;Y{T01;}F{C;}!8;}!3;}M{Y{Pp;!1;}K0a{!2;}}", 3, 1);
        due("M{Y{Y{T31;}F{T42;}}K3a{!1;}K4b{!b+9;}}", 11);
        due("M{@1{Y{R;}F{B;}}!1;}", 1);
        due("Dp{@1{Y{B;}F{R;}}!1;}M{Pp;!2;}", 2);
        due("M{@a<2{a=a+1;Y{B;}F{C;}}!a;}", 2);
        due("M{@a<2{a=a+1;Y{C;}F{B;}}!a;}", 1);
        due("Dp0{Y{R;}F{T04;}}M{Y{Pp;!1;}K0a{!a;}}", 4);
        due("Dp1{Y{T01;}K0a{R;}F{T14;}}M{Y{Pp;!1;}K1b{!b;}!a;}", 4, 1);
        due("M{Y{Y{}F{T04;}!1;}K0a{!a;}}", 4);
        due("M{Y{Y{?1{T01;}{}}K0a{}F{T02;}}K0b{!b;}!a;}", 2, 1);
    }

    private static void traps() {
        CHECKS.dueTrap("M{!1;!1/0;!2;}", 5, 1);
        CHECKS.dueTrap("M{a=4;a=a/(a-4);}", 5);
        CHECKS.dueTrap("M{?1/0{!1;}{!2;}}", 5);
        CHECKS.dueTrap("M{@1/a{}}", 5);
        CHECKS.dueTrap("M{a=2;@4/a{!a;a=a-1;}}", 5, 2, 1);
        CHECKS.dueTrap("M{Y{T01/0;}K0a{!1;}!2;}", 5);
        CHECKS.dueTrap("M{!0*(1/0)<2;}", 5);
        CHECKS.dueTrap("Dp{Pp;}M{Pp;}", 6);
        CHECKS.dueTrap("Dp{Pq;}Dq{!1;Pp;}M{Pq;}", 6, 1, 1, 1, 1);
        CHECKS.dueTrap("Dp0{Y{T01;}K0a{Pp;}}M{Y{Pp;}K0a{!1;}}", 6);
        CHECKS.dueTrap("Dp{Y{}F{Y{}F{Y{}F{Pp;}}}}M{Y{}F{Y{}F{Y{}F{Pp;}}}}", 6);
        int[] outs = new int[24];
        for (int i = 0; i < outs.length; i++) {
            outs[i] = i;
        }
        CHECKS.dueTrap("M{@1{!a;a=a+1;}}", 7, outs);
        CHECKS.dueTrap("M{@a<24{!a;a=a+1;}!a/0;}", 5, outs);
        CHECKS.dueTrap("M{@a<24{!a;a=a+1;}Y{!1;}F{!2/0;}}", 5, outs);
        CHECKS.dueRun("M{@a<24{!a;a=a+1;}}", 3000, 0, outs);
    }

    private static void trapsGoThroughLastBlocks() {
        LeavingMachine machine = CHECKS.dueTrap("M{Y{a=1/0;}F{!1;}!2;}", 5, 1);
        CHECKS.due("a, which was not given a value", machine.variable(0), 0);
        CHECKS.dueTrap("M{Y{Y{?a{T01;}{!1/0;}}K0b{!1;}F{!2;}}F{!3;}}", 5, 2, 3);
        CHECKS.dueTrap("Dq{a=a+1;Y{Pq;}F{!a;a=a-1;}}M{Pq;}", 6, 8, 7, 6, 5, 4, 3, 2, 1);
        CHECKS.dueTrap("Dp{Pp;}M{Y{Pp;}F{!1/0;}}", 5);
        CHECKS.dueTrap("M{Y{!1/0;}F{Y{T07;}K0a{!a;}}}", 5, 7);
        due("Dp{Y{!1/0;}F{R;}}M{Pp;!1;}", 1);
        due("M{@1{Y{!1/0;}F{B;}}!1;}", 1);
        due("M{Y{Y{!1/0;}F{T03;}}K0a{!a;}}", 3);
        due("M{Y{T01;}K0a{Y{!1/0;}F{R;}}!1;}");
        CHECKS.dueTrap("M{Y{T01;}K0a{!1/0;}F{!4;}!1;}", 5, 4);
        due("Dp{a=a+1;Y{Pp;}F{R;}}M{Pp;!a;Pp;!a;}", 8, 16);
    }

    private static void paysWithFuel() {
        dueFuel("M{}", 0);
        dueFuel("M{!1;}", 1);
        dueFuel("M{a=1;R;}", 2);
        dueFuel("M{@0{}}", 2);
        dueFuel("M{?1{!1;!2;}{}}", 3);
        dueFuel("M{@a<2{a=a+1;}}", 6);
        dueFuel("M{@1{a=a+1;?a<3{C;}{B;}}}", 13);
        dueFuel("Dp{}M{Pp;Pp;}", 2);
        dueFuel("M{Y{T01;}K0a{}}", 2);
        dueFuel("M{Y{T01;}K0a{!1;}F{!2;}}", 4);
        dueFuel("M{Y{R;}F{!2;}}", 3);
        dueFuel("M{@1{Y{B;}F{!2;}}}", 5);
        LeavingMachine machine = CHECKS.dueRun("M{Y{!1;!2;}F{!3;}}", 2, 1, 1);
        CHECKS.due("the fuel", machine.look(6), 2);
        CHECKS.dueRun("M{Y{!1;!2;}F{!3;}}", 3, 1, 1, 2);
        CHECKS.dueRun("M{Y{Y{T01;}K0a{!1;!2;}F{!3;}}F{!4;}}", 4, 1, 1);
        CHECKS.dueRun("M{Y{@1{}}F{!3;}}", 3000, 1);
        CHECKS.dueRun("M{@1{}}", 3000, 1);
        CHECKS.dueRun("Dp{Y{Pp;}F{R;}}M{@1{Pp;}}", 3000, 1);
        CHECKS.dueRun("M{a=1/0;}", 0, 1);
        CHECKS.dueRun("M{@1/0{}}", 1, 1);
        CHECKS.dueRun("M{@1/0{}}", 2, 2);
    }

    /** The program ends with just so much fuel, and with no less. */
    private static void dueFuel(String text, int fuel) {
        LeavingMachine machine = CHECKS.compiled(text);
        CHECKS.due("run(3000) of " + text, machine.run(3000), 0);
        CHECKS.due("the fuel of " + text, machine.look(6), fuel);
        CHECKS.due("run of " + text + " with just its fuel", machine.run(fuel), 0);
        for (int less = 0; less < fuel; less++) {
            CHECKS.due("run(" + less + ") of " + text, machine.run(less), 1);
            CHECKS.due("the fuel of " + text + " with " + less, machine.look(6), less);
        }
    }
}
