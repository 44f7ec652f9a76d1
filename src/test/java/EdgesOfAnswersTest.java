/** The edges of the promises 4 and 6 to 10: what compile leaves, and what the calls that only ask answer. */
public final class EdgesOfAnswersTest {
    private static final Checks CHECKS = new Checks();
    private static final int NONE = LeavingMachine.NONE;
    private static final int[] FAR = {Integer.MIN_VALUE, Integer.MIN_VALUE + 1, -256, -1, 24, 25, 255, 256, 65536,
        Integer.MAX_VALUE};
    // Texts that are wrong in the ways 1 to 5.
    private static final String[] WRONG = {"Dp{}M{", "Dp{}M{B;}", "Dp{}M{Pq;}", "Dp{}M{R;!1;}", "Dp{}M{T01;}"};
    // A program, and fuel for it: runs of all three outcomes, with and without values put out.
    private static final String PROGRAM = "Dp0{a=7;!a;T03;}M{Y{Pp;}K0b{}!2;!a/c;}";

    public static void main(String[] args) {
        textStays();
        isTheProgramNotRunYet();
        wrongLeavesNoProgram();
        nothingIsLeftOfTheTextBefore();
        valuesThatWerePutOut();
        valuesOfTheLatestRun();
        variablesAtTheEnd();
        variablesWithoutARun();
        otherVariables();
        whatLeftM();
        nothingLeftM();
        tagsAsBits();
        inTheOrderOfTheText();
        noSuchProcedure();
        looksAtText();
        looksAtProgram();
        looksAtRun();
        looksElsewhere();
        CHECKS.end();
    }

    private static void textStays() {
        CHECKS.sentence("The text (which stays) is read and checked");
        for (String text : new String[] {"", "M{}", PROGRAM, WRONG[0], WRONG[1], WRONG[2], WRONG[3], WRONG[4]}) {
            LeavingMachine machine = CHECKS.typed(text);
            int first = machine.compile();
            CHECKS.due("look(0) behind compile of " + text, machine.look(0), text.length());
            CHECKS.due("compile of " + text + " again", machine.compile(), first);
            CHECKS.due("look(0) behind compile again", machine.look(0), text.length());
        }
        LeavingMachine grows = CHECKS.typed("M{!1;");
        CHECKS.due("compile of half a text", grows.compile(), 1);
        CHECKS.due("type of the other half", grows.type(Checks.part("!2;}")), true);
        CHECKS.due("compile of both halves", grows.compile(), 0);
        CHECKS.due("run of both halves", grows.run(2), 0);
        CHECKS.due("out(1) of both halves", grows.out(1), 2);
    }

    private static void isTheProgramNotRunYet() {
        CHECKS.sentence("0, and it is the program, not run yet");
        LeavingMachine machine = CHECKS.compiled(PROGRAM);
        String notRun = Checks.seen(machine);
        CHECKS.due("all of a program that was not run", notRun, "looks -1 38 1 1 7 -1 0 0 0 -1,"
            + " variables 0 0 0 0 0 0 0 0, outs IndexOutOfBoundsException,"
            + " raised IllegalStateException IllegalStateException, raises 1" + " IllegalArgumentException".repeat(3));
        CHECKS.sentence("In both cases there was no run.");
        for (int fuel : new int[] {0, 2, 4, 5, 6, 7, 3000}) {
            machine.run(fuel);
            CHECKS.due("compile behind run(" + fuel + ")", machine.compile(), 0);
            CHECKS.due("all behind compile behind run(" + fuel + ")", Checks.seen(machine), notRun);
        }
        CHECKS.retype(machine, "M{}");
        CHECKS.due("look(3) of the old program", machine.look(3), 7);
        CHECKS.due("compile of another text", machine.compile(), 0);
        CHECKS.due("look(3) of the new program", machine.look(3), 0);
    }

    private static void wrongLeavesNoProgram() {
        CHECKS.sentence("or in which way it is WRONG, 1 .. 5: then there is no program. In both cases there was no run.");
        for (int way = 1; way <= 5; way++) {
            String text = WRONG[way - 1];
            for (int fuel : new int[] {-1, 0, 3, 5, 3000}) {
                LeavingMachine machine = CHECKS.compiled(PROGRAM);
                if (fuel >= 0) {
                    machine.run(fuel);
                }
                CHECKS.retype(machine, text);
                CHECKS.due("compile of " + text, machine.compile(), way);
                CHECKS.due("all behind compile of " + text, Checks.seen(machine), "looks -1 " + text.length()
                    + " 0 0 0 -1 0 0 0 -1, variables 0 0 0 0 0 0 0 0, outs IndexOutOfBoundsException,"
                    + " raised IllegalStateException IllegalStateException, raises"
                    + " IllegalArgumentException".repeat(4));
                CHECKS.dueThrow("run behind compile of " + text, IllegalStateException.class, () -> machine.run(9));
            }
        }
    }

    /** Each text behind each other one is what it would be in a new object. */
    private static void nothingIsLeftOfTheTextBefore() {
        CHECKS.sentence("0, and it is the program, not run yet; or in which way it is WRONG, 1 .. 5");
        String[] texts = {WRONG[0], WRONG[1], WRONG[2], WRONG[3], WRONG[4], PROGRAM, "M{}", "Dp{}Dq{}Dr{}M{Pp;}",
            "M{" + "Y{T01;}K0a{}".repeat(13) + "}", "M{Y{}F{!1;}}", "M{Y{T01;}K0a{!a;}}", "M{?1{!1;}{!2;}}",
            "M{@a<2{a=a+1;!a;}}", "Dq4{Y{}F{T41;}}M{}", "Dq{!3;}M{Pq;}", "Dr123{?1{}{T21;}}M{Y{Pr;}K1a{}K2b{}K3c{}}",
            "M{" + "a=1;".repeat(39) + "}", "M{!1" + "+1".repeat(77) + ";}", "M{Y{}K0a{}}", "Dp{}Dp{}M{}", "M{R;}",
            "M{@1{@1{B;}B;}Y{}F{}}", "M" + "{".repeat(159)};
        for (String before : texts) {
            for (String text : texts) {
                LeavingMachine machine = CHECKS.typed(before);
                machine.compile();
                Checks.answer(() -> machine.run(3000));
                CHECKS.retype(machine, text);
                LeavingMachine fresh = CHECKS.typed(text);
                String what = text + " behind " + before;
                CHECKS.due("compile of " + what, machine.compile(), fresh.compile());
                CHECKS.due("all of " + what, Checks.seen(machine), Checks.seen(fresh));
                CHECKS.due("run of " + what, Checks.answer(() -> machine.run(3000)), Checks.answer(() -> fresh.run(3000)));
                CHECKS.due("all behind a run of " + what, Checks.seen(machine), Checks.seen(fresh));
            }
        }
    }

    private static void valuesThatWerePutOut() {
        CHECKS.sentence("Value i that the latest run put out. IndexOutOfBoundsException if there is none.");
        for (int count = 0; count <= 24; count++) {
            LeavingMachine machine = CHECKS.compiled("M{@a<" + count + "{!a*a-50;a=a+1;}}");
            dueOuts(machine, 0);
            CHECKS.due("run", machine.run(3000), 0);
            for (int i = 0; i < count; i++) {
                CHECKS.due("out(" + i + ") of " + count, machine.out(i), i * i - 50);
            }
            dueOuts(machine, count);
        }
        dueOuts(new LeavingMachine(), 0);
        LeavingMachine typed = CHECKS.typed("M{!1;}");
        dueOuts(typed, 0);
    }

    /** There are no values but those below count. */
    private static void dueOuts(LeavingMachine machine, int count) {
        for (int i : FAR) {
            CHECKS.dueThrow("out(" + i + ")", IndexOutOfBoundsException.class, () -> machine.out(i));
        }
        for (int i = count; i <= 24; i++) {
            int place = i;
            CHECKS.dueThrow("out(" + i + ") of " + count, IndexOutOfBoundsException.class, () -> machine.out(place));
        }
    }

    private static void valuesOfTheLatestRun() {
        CHECKS.sentence("Value i that the latest run put out.");
        LeavingMachine machine = CHECKS.compiled("M{@a<9{a=a+1;!a;}}");
        for (int fuel : new int[] {3000, 0, 7, 3, 3000, 4, 10}) {
            machine.run(fuel);
            int count = machine.look(5);
            CHECKS.due("look(5) of run(" + fuel + ")", count, Math.min(9, Math.max(0, (fuel - 1) / 3)));
            for (int i = 0; i < count; i++) {
                CHECKS.due("out(" + i + ") of run(" + fuel + ")", machine.out(i), i + 1);
            }
            CHECKS.dueThrow("out(" + count + ")", IndexOutOfBoundsException.class, () -> machine.out(count));
        }
        machine.wipe();
        CHECKS.due("out(0) behind wipe", machine.out(0), 1);
        CHECKS.due("compile", machine.compile(), 1);
        dueOuts(machine, 0);
    }

    private static void variablesAtTheEnd() {
        CHECKS.sentence("Variable k, 0 .. 7 for a .. h, at the end of the latest run");
        LeavingMachine machine = CHECKS.compiled("M{a=11;b=12;c=13;d=14;e=15;f=16;g=17;h=18;h=19;!1/0;}");
        for (int fuel : new int[] {3000, 9, 8, 7, 0, 5, 3000, 1}) {
            machine.run(fuel);
            for (int k = 0; k < 8; k++) {
                int due = k == 7 && fuel > 8 ? 19 : k < fuel ? 11 + k : 0;
                CHECKS.due("variable(" + k + ") of run(" + fuel + ")", machine.variable(k), due);
            }
        }
        machine.wipe();
        CHECKS.due("variable(0) behind wipe", machine.variable(0), 11);
    }

    private static void variablesWithoutARun() {
        CHECKS.sentence("0 if there was none");
        LeavingMachine machine = new LeavingMachine();
        dueZeros("a new object", machine);
        CHECKS.retype(machine, "M{a=1;b=2;c=3;d=4;e=5;f=6;g=7;h=8;}");
        dueZeros("a text", machine);
        CHECKS.due("compile", machine.compile(), 0);
        dueZeros("a program", machine);
        CHECKS.due("run", machine.run(8), 0);
        CHECKS.due("variable(7)", machine.variable(7), 8);
        CHECKS.due("compile", machine.compile(), 0);
        dueZeros("a program again", machine);
        CHECKS.due("run", machine.run(8), 0);
        machine.wipe();
        CHECKS.due("compile of no text", machine.compile(), 1);
        dueZeros("a wrong text", machine);
    }

    private static void dueZeros(String what, LeavingMachine machine) {
        for (int k = 0; k < 8; k++) {
            CHECKS.due("variable(" + k + ") of " + what, machine.variable(k), 0);
        }
    }

    private static void otherVariables() {
        CHECKS.sentence("IndexOutOfBoundsException for any other k.");
        LeavingMachine run = CHECKS.dueRun("M{a=1;h=1;}", 2, 0);
        for (LeavingMachine machine : new LeavingMachine[] {new LeavingMachine(), CHECKS.compiled("M{}"), run}) {
            for (int k : FAR) {
                CHECKS.dueThrow("variable(" + k + ")", IndexOutOfBoundsException.class, () -> machine.variable(k));
            }
            for (int k = 8; k < 24; k++) {
                int place = k;
                CHECKS.dueThrow("variable(" + k + ")", IndexOutOfBoundsException.class, () -> machine.variable(place));
            }
        }
    }

    private static void whatLeftM() {
        CHECKS.sentence("What left M: its tag (a TRAP's 5 .. 7), or its value.");
        CHECKS.dueTrap("M{!1/0;}", 5);
        CHECKS.dueTrap("Dp{Pp;}M{Pp;}", 6);
        LeavingMachine machine = CHECKS.compiled("M{Y{T09;}K0a{}@1{!9;}}");
        CHECKS.due("run", machine.run(3000), 2);
        for (int again = 0; again < 3; again++) {
            CHECKS.due("raised(false)", machine.raised(false), 7);
            CHECKS.due("raised(true)", machine.raised(true), 0);
        }
        machine.wipe();
        CHECKS.due("raised(false) behind wipe", machine.raised(false), 7);
        LeavingMachine other = CHECKS.compiled("Dp{Pp;}M{?a{}{}Y{Pp;}F{!1/0;}}");
        CHECKS.due("run", other.run(3000), 2);
        CHECKS.due("raised(false), where one trap followed another", other.raised(false), 5);
    }

    private static void nothingLeftM() {
        CHECKS.sentence("IllegalStateException if there was no run, or its OUTCOME is not 2.");
        LeavingMachine machine = new LeavingMachine();
        dueNothing(machine);
        CHECKS.retype(machine, "M{a=1;!1/0;}");
        dueNothing(machine);
        CHECKS.due("compile", machine.compile(), 0);
        dueNothing(machine);
        CHECKS.due("run(2)", machine.run(2), 2);
        CHECKS.due("raised(false)", machine.raised(false), 5);
        CHECKS.due("run(1)", machine.run(1), 1);
        dueNothing(machine);
        CHECKS.due("run(2)", machine.run(2), 2);
        CHECKS.due("compile", machine.compile(), 0);
        dueNothing(machine);
        CHECKS.due("run(2)", machine.run(2), 2);
        CHECKS.retype(machine, "M{Y{!1/0;}F{R;}}");
        CHECKS.due("raised(false) of the latest run", machine.raised(false), 5);
        CHECKS.due("compile", machine.compile(), 0);
        CHECKS.due("run(9), where a trap was lost", machine.run(9), 0);
        dueNothing(machine);
        machine.wipe();
        CHECKS.due("compile of no text", machine.compile(), 1);
        dueNothing(machine);
    }

    private static void dueNothing(LeavingMachine machine) {
        CHECKS.dueThrow("raised(false)", IllegalStateException.class, () -> machine.raised(false));
        CHECKS.dueThrow("raised(true)", IllegalStateException.class, () -> machine.raised(true));
    }

    private static void tagsAsBits() {
        CHECKS.sentence("Tags 0 .. 4 that a procedure's block RAISES, as bits");
        CHECKS.due("raises(0) of none", CHECKS.compiled("Dp{}M{}").raises(0), 0);
        CHECKS.due("raises(0) of TAGS that are not raised", CHECKS.compiled("Dp01234{}M{}").raises(0), 0);
        for (int bits = 0; bits < 32; bits++) {
            StringBuilder text = new StringBuilder("Dp01234{");
            for (int tag = 0; tag < 5; tag++) {
                text.append((bits >> tag & 1) == 0 ? "" : "?a{T" + tag + "1;}{}");
            }
            CHECKS.due("raises(0) of " + text, CHECKS.compiled(text + "}M{}").raises(0), bits);
        }
        // What M, or a run, does is not asked.
        LeavingMachine machine = CHECKS.dueRun("Dp0{?a{T01;}{}}Dq{Y{Pp;}K0a{}}M{Pq;Y{T31;}K3a{}}", 99, 0);
        CHECKS.due("raises(0) behind a run", machine.raises(0), 1);
        CHECKS.due("raises(1) behind a run", machine.raises(1), 0);
        CHECKS.due("raises(0) of a TRAP", CHECKS.compiled("Dp4{!1/0;}M{}").raises(0), 0);
    }

    private static void inTheOrderOfTheText() {
        CHECKS.sentence("p being 0 .. 2 in the order of the text");
        for (String names : new String[] {"pqr", "prq", "qpr", "qrp", "rpq", "rqp"}) {
            LeavingMachine machine = CHECKS.compiled("D" + names.charAt(0) + "1{T11;}D" + names.charAt(1) + "3{T31;}D"
                + names.charAt(2) + "04{T41;}M{}");
            CHECKS.due("raises(0) of " + names, machine.raises(0), 2);
            CHECKS.due("raises(1) of " + names, machine.raises(1), 8);
            CHECKS.due("raises(2) of " + names, machine.raises(2), 16);
        }
    }

    private static void noSuchProcedure() {
        CHECKS.sentence("IllegalArgumentException if there is no program or no such procedure in it.");
        String[] texts = {"M{}", "Dp{}M{}", "Dp{}Dq{}M{}", "Dp{}Dq{}Dr{}M{}"};
        for (int count = 0; count <= 3; count++) {
            LeavingMachine machine = CHECKS.typed(texts[count]);
            dueRefused(machine, 0);
            CHECKS.due("compile", machine.compile(), 0);
            for (int p = 0; p < count; p++) {
                CHECKS.due("raises(" + p + ") of " + count, machine.raises(p), 0);
            }
            dueRefused(machine, count);
            // An earlier program's procedures are gone.
            CHECKS.retype(machine, "M{}");
            CHECKS.due("compile", machine.compile(), 0);
            dueRefused(machine, 0);
        }
        for (String wrong : WRONG) {
            LeavingMachine machine = CHECKS.compiled(texts[3]);
            CHECKS.retype(machine, wrong);
            CHECKS.due("raises(2) before compile", machine.raises(2), 0);
            machine.compile();
            dueRefused(machine, 0);
        }
        dueRefused(new LeavingMachine(), 0);
    }

    private static void dueRefused(LeavingMachine machine, int from) {
        for (int p : FAR) {
            CHECKS.dueThrow("raises(" + p + ")", IllegalArgumentException.class, () -> machine.raises(p));
        }
        for (int p = from; p < 5; p++) {
            int place = p;
            CHECKS.dueThrow("raises(" + p + ") of " + from, IllegalArgumentException.class, () -> machine.raises(place));
        }
    }

    private static void looksAtText() {
        CHECKS.sentence("which 0: characters in the text");
        LeavingMachine machine = new LeavingMachine();
        for (int length = 0; length <= 160; length++) {
            CHECKS.due("look(0)", machine.look(0), length);
            CHECKS.due("type", machine.type('x'), length < 160);
        }
        machine.wipe();
        CHECKS.due("look(0) behind wipe", machine.look(0), 0);
    }

    private static void looksAtProgram() {
        CHECKS.sentence("1: 1 if there is a program, 2: its procedures (0 without one), 3: its statements (0 without one)");
        String[] texts = {"M{}", "Dp{}M{!1;}", "Dp{R;}Dq{}M{?1{!1;}{!2;!3;}}", "Dp{Pp;}Dq{@1{B;}}Dr0{T01;}M{}",
            "M{Y{T01;}K0a{!1;!2;}F{?1{}{R;}}}", "M{" + "!1;".repeat(52) + "}", "M{" + "@a{}".repeat(39) + "}"};
        int[] procedures = {0, 1, 2, 3, 0, 0, 0};
        int[] statements = {0, 1, 5, 4, 6, 52, 39};
        for (int i = 0; i < texts.length; i++) {
            LeavingMachine machine = CHECKS.typed(texts[i]);
            dueProgram(machine, 0, 0, 0);
            CHECKS.due("compile of " + texts[i], machine.compile(), 0);
            dueProgram(machine, 1, procedures[i], statements[i]);
            machine.run(3);
            dueProgram(machine, 1, procedures[i], statements[i]);
            machine.wipe();
            dueProgram(machine, 1, procedures[i], statements[i]);
            CHECKS.due("compile of no text", machine.compile(), 1);
            dueProgram(machine, 0, 0, 0);
        }
        for (String wrong : WRONG) {
            LeavingMachine machine = CHECKS.typed(wrong);
            CHECKS.due("compile of " + wrong + " is not 0", machine.compile() != 0, true);
            dueProgram(machine, 0, 0, 0);
        }
    }

    private static void dueProgram(LeavingMachine machine, int is, int procedures, int statements) {
        CHECKS.due("look(1)", machine.look(1), is);
        CHECKS.due("look(2)", machine.look(2), procedures);
        CHECKS.due("look(3)", machine.look(3), statements);
    }

    private static void looksAtRun() {
        CHECKS.sentence("4: the OUTCOME of the latest run, NONE without one, 5: how many values it put out, 6: the fuel that it"
            + " used, 7: how many procedures were under way at most (5 to 7: 0 without one)");
        LeavingMachine machine = new LeavingMachine();
        dueRun(machine, NONE, 0, 0, 0);
        CHECKS.retype(machine, "Dp{!1;Pq;}Dq{!2;}M{Pq;Pp;Pq;!a/a;}");
        dueRun(machine, NONE, 0, 0, 0);
        CHECKS.due("compile", machine.compile(), 0);
        dueRun(machine, NONE, 0, 0, 0);
        int[][] runs = {{0, 1, 0, 0, 0}, {1, 1, 0, 1, 1}, {2, 1, 1, 2, 1}, {3, 1, 1, 3, 1}, {4, 1, 2, 4, 1}, {5, 1, 2, 5, 2},
            {6, 1, 3, 6, 2}, {7, 1, 3, 7, 2}, {8, 1, 4, 8, 2}, {9, 2, 4, 9, 2}, {3000, 2, 4, 9, 2}, {1, 1, 0, 1, 1},
            {0, 1, 0, 0, 0}};
        for (int[] run : runs) {
            CHECKS.due("run(" + run[0] + ")", machine.run(run[0]), run[1]);
            dueRun(machine, run[1], run[2], run[3], run[4]);
        }
        machine.run(5);
        machine.wipe();
        dueRun(machine, 1, 2, 5, 2);
        CHECKS.due("compile of no text", machine.compile(), 1);
        dueRun(machine, NONE, 0, 0, 0);
        dueRun(CHECKS.dueRun("M{}", 0, 0), 0, 0, 0, 0);
        dueRun(CHECKS.dueRun("M{}", 3000, 0), 0, 0, 0, 0);
        dueRun(CHECKS.dueTrap("Dr{Pr;}M{Pr;}", 6), 2, 0, 9, 8);
        // At most, not at the end: the deepest call comes first.
        dueRun(CHECKS.dueRun("Dp{Pq;}Dq{Pr;}Dr{}M{Pp;Pr;}", 99, 0), 0, 0, 4, 3);
    }

    private static void dueRun(LeavingMachine machine, int outcome, int outs, int fuel, int underWay) {
        CHECKS.due("look(4)", machine.look(4), outcome);
        CHECKS.due("look(5)", machine.look(5), outs);
        CHECKS.due("look(6)", machine.look(6), fuel);
        CHECKS.due("look(7)", machine.look(7), underWay);
    }

    private static void looksElsewhere() {
        CHECKS.sentence("NONE for any other which.");
        LeavingMachine run = CHECKS.dueTrap(PROGRAM, 5, 7, 2);
        for (LeavingMachine machine : new LeavingMachine[] {new LeavingMachine(), CHECKS.compiled("M{}"), run}) {
            for (int which : FAR) {
                CHECKS.due("look(" + which + ")", machine.look(which), NONE);
            }
            for (int which = 8; which < 24; which++) {
                CHECKS.due("look(" + which + ")", machine.look(which), NONE);
            }
        }
        CHECKS.sentence("NONE = -1");
        CHECKS.due("NONE", NONE, -1);
    }
}
