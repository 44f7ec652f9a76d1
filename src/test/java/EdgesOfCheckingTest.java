/** The edges of CHECKING, sentence by sentence. */
public final class EdgesOfCheckingTest {
    private static final Checks CHECKS = new Checks();
    // Statements that can stand in a K block that lies in an @ block, where p is a procedure; T and X raise 0.
    private static final String[] STATEMENTS = {"a=1;", "!1;", "?1{}{}", "@1{}", "B;", "C;", "R;", "T01;", "X;", "Pp;",
        "Y{}F{}"};
    private static final String LEAVING = "BCRTX";

    public static void main(String[] args) {
        grammarComesFirst();
        firstStatementCounts();
        firstThatHoldsCounts();
        loopOfItsProcedure();
        catchOfItsProcedure();
        nameThatNoProcedureHas();
        directlyBehind();
        twoProceduresOfOneName();
        raisesOfTAndX();
        raisesOfP();
        raisesOfBlocks();
        raisesOfY();
        othersRaiseNone();
        catchesWhatItsBlockRaises();
        proceduresRaiseTheirTags();
        mRaisesNothing();
        CHECKS.end();
    }

    private static void grammarComesFirst() {
        CHECKS.sentence("The text is WRONG: 1 if it is not in the grammar.");
        CHECKS.dueCompiles(1, "", "M{B;", "M{B;}}", "M{Pp;}x", "M{R;R;", "Dp{}Dp{}M{", "M{T01;", "Dp{T01;}", "M{B;Pp;R;!1;!}",
            "M{Pp;!1234;}", "M{R;!((((1))));}", "Dp{}Dp{}Dp{}Dp{}M{B;}", "M{X;Y{}}", "M{Y{}K0a{}K0b{}}");
        CHECKS.dueCompiles(2, "M{B;}");
        CHECKS.dueCompiles(3, "M{Pp;}", "Dp{}Dp{}M{}");
        CHECKS.dueCompiles(4, "M{R;R;}");
        CHECKS.dueCompiles(5, "M{T01;}");
    }

    /** Every two faults of one text, in both orders, in one block, in two blocks and in two procedures. */
    private static void firstStatementCounts() {
        CHECKS.sentence("Otherwise, with the first statement in the text for which one of these holds, by that one");
        String[] faults = {"?1{B;}{}", "?1{C;}{}", "?1{X;}{}", "?1{Pq;}{}", "?1{R;!1;}{}", "?1{T01;R;}{}"};
        int[] wrongs = {2, 2, 2, 3, 4, 4};
        for (int one = 0; one < faults.length; one++) {
            CHECKS.dueCompile("Dp{}M{" + faults[one] + "}", wrongs[one]);
            for (int two = 0; two < faults.length; two++) {
                CHECKS.dueCompiles(wrongs[one], "Dp{}M{" + faults[one] + faults[two] + "}",
                    "Dp{" + faults[one] + "}M{" + faults[two] + "}", "Dp{}M{?1{" + faults[one] + "}{" + faults[two] + "}}",
                    "Dp{}M{@0{?1{}{}" + faults[one].replaceAll("[BC];", "X;") + "}" + faults[two] + "}",
                    "Dp{" + faults[one] + "}Dp{" + faults[two] + "}M{T01;}");
            }
        }
        // A statement with blocks begins before those in its blocks do.
        CHECKS.dueCompiles(4, "M{R;?1{B;}{}}", "M{R;?1{}{Pp;}}", "M{R;@1{X;}}", "M{R;Y{Pp;}F{}}", "M{R;Y{}F{B;}}",
            "M{T01;Y{T01;}K0a{B;}}", "M{?1{R;@1{Pp;}}{}B;}");
        CHECKS.dueCompiles(2, "M{?1{B;}{}R;!1;}", "M{@1{}?1{B;}{}Pp;}", "M{Y{}F{C;}Pp;}", "M{Y{X;}F{Pp;}}");
        CHECKS.dueCompiles(3, "M{?1{Pp;}{}B;}", "M{Y{Pp;}F{X;}}", "M{Pp;R;!1;}");
    }

    private static void firstThatHoldsCounts() {
        CHECKS.sentence("by that one (the first that holds)");
        for (char leaving : "RT".toCharArray()) {
            String first = leaving == 'T' ? "T01;" : leaving + ";";
            CHECKS.dueCompiles(2, "M{" + first + "B;}", "M{" + first + "C;}", "M{" + first + "X;}");
            CHECKS.dueCompiles(3, "M{" + first + "Pp;}", "Dp{}M{" + first + "Pr;}");
            CHECKS.dueCompiles(4, "Dp{}M{" + first + "Pp;}", "M{@1{" + first + "B;}}", "M{@1{" + first + "C;}}");
        }
        CHECKS.dueCompiles(2, "M{@1{B;X;}}", "M{@1{C;X;}}", "M{Y{T01;}K0a{X;B;}}");
        CHECKS.dueCompiles(3, "M{@1{B;Pp;}}", "M{@1{C;Pp;}}", "M{Y{T01;}K0a{X;Pp;}}");
        CHECKS.dueCompiles(4, "M{@1{B;B;}}", "Dp0{Y{T01;}K0a{X;X;}}M{}");
    }

    private static void loopOfItsProcedure() {
        CHECKS.sentence("2 B or C in no @ block of its procedure (or M)");
        for (char way : new char[] {'B', 'C'}) {
            String leave = way + ";";
            CHECKS.dueCompiles(2, "M{" + leave + "}", "Dp{" + leave + "}M{}", "Dp{" + leave + "}M{@1{Pp;}}",
                "Dp{@1{Pq;}}Dq{" + leave + "}M{}", "M{@1{}" + leave + "}", "M{@1{B;}" + leave + "}",
                "M{?1{" + leave + "}{}}", "M{?1{}{" + leave + "}}", "M{Y{" + leave + "}F{}}", "M{Y{}F{" + leave + "}}",
                "M{Y{T01;}K0a{" + leave + "}}", "Dp{@1{}}M{" + leave + "}", "M{?1{@1{}}{" + leave + "}}",
                "M{@1{@1{}}" + leave + "}", "M{Y{@1{}}F{" + leave + "}}", "Dp{@1{B;}" + leave + "}M{@1{}}");
            CHECKS.dueCompiles(0, "M{@1{" + leave + "}}", "Dp{@1{" + leave + "}}M{}", "M{@1{?1{" + leave + "}{}}}",
                "M{@1{?1{}{" + leave + "}}}", "M{@1{Y{" + leave + "}F{}}}", "M{@1{Y{}F{" + leave + "}}}",
                "M{@1{Y{T01;}K0a{" + leave + "}}}", "M{@1{@1{}" + leave + "}}", "M{@1{@1{" + leave + "}" + leave + "}}",
                "M{@1{?1{Y{}F{" + leave + "}}{}}}", "M{Y{T01;}K0a{@1{" + leave + "}}}", "M{Y{}F{@1{" + leave + "}}}");
        }
    }

    private static void catchOfItsProcedure() {
        CHECKS.sentence("or X in no K block of it");
        CHECKS.dueCompiles(2, "M{X;}", "Dp{X;}M{}", "M{?1{X;}{}}", "M{@1{X;}}", "M{Y{X;}F{}}", "M{Y{}F{X;}}",
            "M{Y{X;}K0a{}}", "M{Y{T01;}K0a{}X;}", "M{Y{T01;}K0a{}F{X;}}", "Dp01234{X;}M{Y{T01;}K0a{Pp;}}",
            "Dp0{Y{T01;}K0a{}}M{X;}", "Dp0{Y{T01;}K0a{X;}}Dq0{X;}M{}", "M{Y{T01;}K0a{}Y{X;}F{}}",
            "M{@1{Y{T01;}K0a{}X;}}", "Dp0{Y{T01;}K0a{X;}?1{X;}{}}M{}");
        CHECKS.dueCompiles(0, "Dp0{Y{T01;}K0a{X;}}M{}", "Dp0{Y{T01;}K0a{?1{X;}{X;}}}M{}", "Dp0{Y{T01;}K0a{@1{X;}}}M{}",
            "Dp0{Y{T01;}K0a{Y{X;}F{}}}M{}", "Dp0{Y{T01;}K0a{Y{}F{X;}}}M{}", "Dp0{Y{T01;}K0a{X;}F{}}M{}",
            "M{Y{Y{T01;}K0a{X;}}K0a{}}", "Dp01{Y{?a{T01;}{T11;}}K0a{}K1b{X;}}M{}");
    }

    private static void nameThatNoProcedureHas() {
        CHECKS.sentence("3 P of a name that no procedure has");
        String[] names = {"p", "q", "r"};
        for (String called : names) {
            CHECKS.dueCompile("M{P" + called + ";}", 3);
            for (String name : names) {
                int want = name.equals(called) ? 0 : 3;
                CHECKS.dueCompile("D" + name + "{}M{P" + called + ";}", want);
                CHECKS.dueCompile("D" + name + "{P" + called + ";}M{}", want);
            }
        }
        CHECKS.dueCompiles(0, "Dp{Pq;}Dq{}M{}", "Dp{Pr;}Dq{}Dr{Pp;}M{Pq;}", "Dq{Pq;}M{}", "Dp{}Dq{}Dr{}M{Pp;Pq;Pr;}");
        CHECKS.dueCompiles(3, "Dp{Pr;}Dq{}M{}", "Dp{}Dq{}M{?1{}{@1{Pr;}}}", "Dp{}M{Y{}F{Pq;}}", "Dp{}M{Y{T01;}K0a{Pq;}}");
    }

    /** Each statement behind each other one, where all of them may stand. */
    private static void directlyBehind() {
        CHECKS.sentence("4 it stands directly behind a B, C, R, T or X in its block");
        for (String one : STATEMENTS) {
            boolean leaves = LEAVING.indexOf(one.charAt(0)) >= 0;
            for (String two : STATEMENTS) {
                CHECKS.dueCompiles(leaves ? 4 : 0, around(one + two));
                CHECKS.dueCompiles(leaves || LEAVING.indexOf(two.charAt(0)) >= 0 ? 4 : 0, around(one + two + "b=1;"));
            }
            if (leaves) {
                CHECKS.dueCompiles(0, around("?1{" + one + "}{" + one + "}a=1;"), around("@1{" + one + "}" + one),
                    around("Y{" + one + "}F{" + one + "}a=1;"), around("a=1;" + one));
            }
        }
        CHECKS.dueCompiles(0, "M{R;}", "Dp{R;}Dq{R;}M{R;}", "M{?1{R;}{R;}R;}", "Dp0{Y{T01;}K0a{X;}T01;}M{}");
        CHECKS.dueCompiles(4, "Dp{R;R;}M{}", "M{a=1;R;a=1;}", "M{?1{}{R;a=1;}}", "M{Y{}F{R;!1;}}", "M{R;Y{}F{}}");
    }

    /** A procedure whose K block, in an @ block, has these statements. */
    private static String around(String statements) {
        return "Dp0{@1{Y{T01;}K0a{" + statements + "}}}M{}";
    }

    private static void twoProceduresOfOneName() {
        CHECKS.sentence("Then 3 if two procedures have one name.");
        String names = "pqr";
        for (char one : names.toCharArray()) {
            for (char two : names.toCharArray()) {
                CHECKS.dueCompile("D" + one + "{}D" + two + "{}M{}", one == two ? 3 : 0);
                for (char three : names.toCharArray()) {
                    boolean apart = one != two && two != three && one != three;
                    CHECKS.dueCompile("D" + one + "{}D" + two + "{}D" + three + "{}M{}", apart ? 0 : 3);
                }
            }
        }
        // Only after all statements, and before what is raised.
        CHECKS.dueCompiles(2, "Dp{}Dp{B;}M{}", "Dp{}Dp{}M{X;}");
        CHECKS.dueCompiles(4, "Dp{}Dp{}M{R;!1;}", "Dp{R;!1;}Dp{}M{}");
        CHECKS.dueCompiles(3, "Dp{T01;}Dp{}M{}", "Dp{}Dp{}M{T01;}", "Dp{}Dp{}M{Y{}K0a{}}", "Dp{}Dp{Pp;}M{Pp;}",
            "Dq{}Dp0{}Dp1{}M{Pp;}");
    }

    private static void raisesOfTAndX() {
        CHECKS.sentence("T: its tag; X: the tag of the innermost K block around it");
        for (int tag = 0; tag < 5; tag++) {
            int other = (tag + 2) % 5;
            dueRaises("T" + tag + "1;", 1 << tag);
            dueRaises("Y{T" + tag + "1;}K" + tag + "a{X;}", 1 << tag);
            dueRaises("Y{T" + tag + "1;}K" + tag + "a{?1{@1{X;}}{}}", 1 << tag);
            String nested = "Y{T" + tag + "1;}K" + tag + "a{Y{T" + other + "1;}K" + other + "b{";
            dueRaises(nested + "X;}}", 1 << other);
            dueRaises(nested + "}X;}", 1 << tag);
            dueRaises(nested + "}F{X;}}", 1 << tag);
            dueRaises("Y{T" + tag + "1;}K" + tag + "a{Y{X;}F{}}", 1 << tag);
        }
    }

    private static void raisesOfP() {
        CHECKS.sentence("P: the procedure's TAGS");
        CHECKS.dueCompiles(5, "Dp0{}M{Pp;}", "Dp0{}Dq{Pp;}M{}", "Dp01{T01;}Dq0{Pp;}M{}", "Dq{Pp;}Dp4{}M{}", "Dp0{}Dq1{Pp;}M{}");
        CHECKS.dueCompiles(0, "Dp0{}Dq0{Pp;}M{}", "Dp01{T01;}M{Y{Pp;}K0a{}K1a{}}", "Dp0{Pp;}M{}", "Dp{}M{Pp;}");
        LeavingMachine machine = CHECKS.compiled("Dp024{}Dq01234{Pp;}Dr13{Y{Pq;}K0a{}K2a{}K4a{}}M{}");
        CHECKS.due("raises(0), whose block raises nothing", machine.raises(0), 0);
        CHECKS.due("raises(1), whose block has P", machine.raises(1), 21);
        CHECKS.due("raises(2), whose block catches what P raises", machine.raises(2), 10);
        CHECKS.due("raises(0) of what calls itself", CHECKS.compiled("Dp14{Pp;}M{}").raises(0), 18);
    }

    private static void raisesOfBlocks() {
        CHECKS.sentence("? and @: those of their blocks");
        dueRaises("?1{T01;}{}", 1);
        dueRaises("?0{}{T41;}", 16);
        dueRaises("?0{T01;}{T11;}", 3);
        dueRaises("@0{T21;}", 4);
        dueRaises("@1{?1{}{@1{T31;}}}", 8);
        CHECKS.sentence("Those of a block are those of its statements.");
        dueRaises("", 0);
        dueRaises("?1{T01;}{}?1{T11;}{}?1{T21;}{}?1{T31;}{}T41;", 31);
        dueRaises("?1{T01;}{}!1;?1{T01;}{}", 1);
    }

    private static void raisesOfY() {
        CHECKS.sentence("Y: those of its block but those that it catches, and those of its K blocks and F");
        dueRaises("Y{T01;}F{}", 1);
        dueRaises("Y{T01;}K0a{}", 0);
        dueRaises("Y{?1{T01;}{T11;}}K0a{}", 2);
        dueRaises("Y{?1{T01;}{T11;}}K1a{}", 1);
        dueRaises("Y{?1{T01;}{T11;}?1{T21;}{T31;}}K0a{}K1a{}K2a{}", 8);
        dueRaises("Y{T01;}K0a{T11;}", 2);
        dueRaises("Y{T01;}K0a{T01;}", 1);
        dueRaises("Y{?1{T01;}{T11;}}K0a{T11;}K1a{T01;}", 3);
        dueRaises("Y{}F{T21;}", 4);
        dueRaises("Y{T01;}K0a{}F{T01;}", 1);
        dueRaises("Y{T01;}K0a{T11;}F{T21;}", 6);
        dueRaises("Y{T01;}F{R;}", 1);
        dueRaises("Y{Y{T01;}K0a{T11;}}K1a{T21;}", 4);
    }

    private static void othersRaiseNone() {
        CHECKS.sentence("others none");
        dueRaises("a=1/0;!1/0;@1{B;}@1{C;}Y{}F{}?1/0{}{}R;", 0);
        CHECKS.dueCompiles(0, "M{a=1/0;!1/0;?1/0{}{}@1/0{}}", "M{@1{!1;}}", "Dp{Pp;}M{Pp;}");
    }

    /** A block that raises just these tags: with all TAGS, with just these, and with one too few. */
    private static void dueRaises(String statements, int bits) {
        StringBuilder just = new StringBuilder();
        for (int tag = 0; tag < 5; tag++) {
            just.append((bits >> tag & 1) == 0 ? "" : Integer.toString(tag));
        }
        LeavingMachine all = CHECKS.compiled("Dp01234{" + statements + "}M{}");
        CHECKS.due("raises(0) of " + statements, all.raises(0), bits);
        LeavingMachine few = CHECKS.compiled("Dp" + just + "{" + statements + "}M{}");
        CHECKS.due("raises(0) of " + statements + " with its tags", few.raises(0), bits);
        for (int i = 0; i < just.length(); i++) {
            CHECKS.dueCompile("Dp" + just.substring(0, i) + just.substring(i + 1) + "{" + statements + "}M{}", 5);
        }
        CHECKS.dueCompile("M{" + statements + "}", bits == 0 ? 0 : 5);
    }

    private static void catchesWhatItsBlockRaises() {
        CHECKS.sentence("It is WRONG 5 if a Y catches a tag that its block does not RAISE");
        for (int raised = 0; raised < 5; raised++) {
            for (int caught = 0; caught < 5; caught++) {
                int want = raised == caught ? 0 : 5;
                CHECKS.dueCompile("Dp01234{Y{T" + raised + "1;}K" + caught + "a{}}M{}", want);
                CHECKS.dueCompile("Dp" + raised + "{}Dq01234{Y{Pp;}K" + caught + "a{}}M{}", want);
            }
            CHECKS.dueCompile("M{Y{}K" + raised + "a{}}", 5);
        }
        CHECKS.dueCompiles(5, "M{Y{T01;}K0a{}K1b{}}", "M{Y{T01;}K1b{}K0a{}}", "M{Y{T01;}K0a{}K1b{}F{}}",
            "M{Y{T01;}K0a{Y{}K1a{}}}", "M{Y{}F{Y{}K1a{}}}", "M{?0{Y{}K0a{}}{}}", "M{@0{Y{}K0a{}}}",
            "Dp01234{Y{T01;}K0a{T11;}K1a{}}M{}", "Dp01234{Y{}K1a{}F{T11;}}M{}", "M{Y{Y{T01;}K0a{}}K0a{}}",
            "M{Y{!1/0;}K0a{}}", "M{Y{Y{T01;}K0a{T11;}}K0b{}K1b{}}", "Dp{Y{}K0a{}}Dq{}M{}", "Dp{}Dq{Y{}K0a{}}M{}");
        CHECKS.dueCompiles(0, "M{Y{Y{T01;}K0a{X;}}K0a{}}", "M{Y{Y{T01;}K0a{T11;}}K1a{}}", "M{Y{Y{}F{T11;}}K1a{}}",
            "M{Y{Y{T01;}F{R;}}K0a{}}", "M{Y{@0{T01;}}K0a{}}", "Dp0{}M{Y{?0{Pp;}{}}K0a{}}", "Dp{}M{Y{Pp;T01;}K0a{}}");
    }

    private static void proceduresRaiseTheirTags() {
        CHECKS.sentence("if a procedure's block RAISES what is not in its TAGS");
        for (int raised = 0; raised < 5; raised++) {
            for (int declared = 0; declared < 5; declared++) {
                int want = raised == declared ? 0 : 5;
                CHECKS.dueCompile("Dp" + declared + "{T" + raised + "1;}M{}", want);
                CHECKS.dueCompile("Dp{}Dq" + declared + "{T" + raised + "1;}M{}", want);
                CHECKS.dueCompile("Dr{}Dp{}Dq" + declared + "{T" + raised + "1;}M{}", want);
            }
            CHECKS.dueCompile("Dp{T" + raised + "1;}Dq01234{}M{}", 5);
            CHECKS.dueCompile("Dp01234{T" + raised + "1;}M{}", 0);
        }
        CHECKS.dueCompiles(0, "Dp01234{}M{}", "Dp0{Y{T11;}K1a{}}M{}");
    }

    private static void mRaisesNothing() {
        CHECKS.sentence("or M's block RAISES anything");
        for (int tag = 0; tag < 5; tag++) {
            CHECKS.dueCompiles(5, "M{T" + tag + "1;}", "M{!1;?0{}{T" + tag + "1;}}", "M{@0{T" + tag + "1;}}",
                "Dp" + tag + "{}M{Pp;}", "M{Y{T" + tag + "1;}K" + tag + "a{X;}}", "M{Y{T" + tag + "1;}F{R;}}",
                "M{Y{}F{T" + tag + "1;}}", "Dp01234{T" + tag + "1;}M{T" + tag + "1;}");
            CHECKS.dueCompiles(0, "M{Y{T" + tag + "1;}K" + tag + "a{}}", "Dp" + tag + "{}M{Y{Pp;}K" + tag + "a{}}");
        }
    }
}
