import java.util.ArrayList;
import java.util.List;

/** The edges of F blocks: every way into one with every way out of it. */
public final class EdgesOfLastBlocksTest {
    private static final Checks CHECKS = new Checks();
    // At its end, by B, C, R, a RAISE and a TRAP; what is raised is 5 with tag 0, or 6 with tag 1.
    private static final String[] BODY_WAYS = {"", "B;", "C;", "R;", "T05;", "!1/0;"};
    private static final String[] LAST_WAYS = {"", "B;", "C;", "R;", "T16;", "!1/0;"};

    public static void main(String[] args) {
        doneOnEveryWay();
        doneBehindTheCatch();
        doneOneAroundAnother();
        doneOnEveryWayOutOfM();
        doneForEachTrap();
        doneOnceAndInOrder();
        wayGoesOnUnlessLeft();
        onlyTheLastWayCounts();
        CHECKS.end();
    }

    private static void doneOnEveryWay() {
        CHECKS.sentence("A Y's F block is done whenever its first block, and the catch's if there was one, is left or at its"
            + " end, on any way (also by B, C, R, a RAISE or a TRAP); then that way goes on, unless the F block is left"
            + " itself: then only that counts.");
        for (String body : BODY_WAYS) {
            for (String last : LAST_WAYS) {
                dueWay("Y{" + body + "}F{!7;" + last + "}", last.isEmpty() ? body : last, 7);
                dueWay("Y{?1{" + body + "}{}}F{!7;?1{" + last + "}{}}", last.isEmpty() ? body : last, 7);
            }
        }
    }

    private static void doneBehindTheCatch() {
        CHECKS.sentence("whenever its first block, and the catch's if there was one, is left or at its end");
        for (String last : LAST_WAYS) {
            for (String body : BODY_WAYS) {
                dueWay("Y{T03;}K0d{!2;" + body + "}F{!7;" + last + "}", last.isEmpty() ? body : last, 2, 7);
                // A first block that is left otherwise, or ends, does not do the catch.
                if (!body.startsWith("T")) {
                    dueWay("Y{?0{T03;}{}?1{" + body + "}{}}K0d{!2;}F{!7;" + last + "}", last.isEmpty() ? body : last, 7);
                }
            }
            dueWay("Y{T05;}K0d{!2;X;}F{!7;" + last + "}", last.isEmpty() ? "T05;" : last, 2, 7);
        }
    }

    private static void doneOneAroundAnother() {
        CHECKS.sentence("then that way goes on, unless the F block is left itself: then only that counts");
        for (String body : BODY_WAYS) {
            for (String inner : LAST_WAYS) {
                for (String outer : LAST_WAYS) {
                    String way = !outer.isEmpty() ? outer : !inner.isEmpty() ? inner : body;
                    dueWay("Y{Y{" + body + "}F{!6;" + inner + "}}F{!7;" + outer + "}", way, 6, 7);
                }
                // One F block lies in another one.
                dueWay("Y{}F{!7;Y{" + body + "}F{!6;" + inner + "}}", inner.isEmpty() ? body : inner, 7, 6);
            }
        }
    }

    /** The statement is left in that way, after it put out these values; it lies in a loop of a procedure. */
    private static void dueWay(String statement, String way, int... before) {
        String text = "Dp01{@a<2{a=a+1;" + statement + "!8;}!9;}M{Y{Pp;!4;}K0b{!b;}K1c{!c;}}";
        List<Integer> outs = new ArrayList<>();
        for (int time = 0; time < 2; time++) {
            for (int value : before) {
                outs.add(value);
            }
            if (way.isEmpty()) {
                outs.add(8);
            } else if (!way.equals("C;")) {
                break;
            }
        }
        switch (way) {
            case "R;" -> outs.add(4);
            case "T05;" -> outs.add(5);
            case "T16;" -> outs.add(6);
            case "!1/0;" -> { }
            default -> outs.addAll(List.of(9, 4));
        }
        int[] due = outs.stream().mapToInt(Integer::intValue).toArray();
        if (way.equals("!1/0;")) {
            CHECKS.dueTrap(text, 5, due);
        } else {
            CHECKS.dueRun(text, 3000, 0, due);
        }
    }

    private static void doneOnEveryWayOutOfM() {
        CHECKS.sentence("R leaves the procedure, or ends the run from M.");
        CHECKS.dueRun("M{Y{R;}F{!7;}!8;}", 3000, 0, 7);
        CHECKS.dueRun("M{Y{Y{R;}F{!6;}!8;}F{!7;}!8;}", 3000, 0, 6, 7);
        CHECKS.dueRun("M{Y{T05;}K0a{R;}F{!7;}!8;}", 3000, 0, 7);
        CHECKS.dueRun("M{Y{!1/0;}F{!7;R;}!8;}", 3000, 0, 7);
        CHECKS.dueRun("M{@1{Y{R;}F{!7;B;}}!9;}", 3000, 0, 7, 9);
        CHECKS.dueTrap("M{Y{R;}F{!7;!1/0;}!8;}", 5, 7);
        CHECKS.dueRun("M{@1{@1{Y{R;}F{!7;}}!8;}!8;}", 3000, 0, 7);
    }

    private static void doneForEachTrap() {
        CHECKS.sentence("(also by B, C, R, a RAISE or a TRAP)");
        CHECKS.dueTrap("M{Y{!1/0;}F{!7;}!8;}", 5, 7);
        CHECKS.dueTrap("M{Y{?1/0{}{}}F{!7;}!8;}", 5, 7);
        CHECKS.dueTrap("M{Y{@1/0{}}F{!7;}!8;}", 5, 7);
        CHECKS.dueTrap("M{Y{Y{T01/0;}K0a{!8;}F{!6;}!8;}F{!7;}!8;}", 5, 6, 7);
        CHECKS.dueTrap("M{Y{T01;}K0a{!2;!1/0;}F{!7;}!8;}", 5, 2, 7);
        CHECKS.dueTrap("Dp{Pp;}M{Y{Pp;}F{!7;}!8;}", 6, 7);
        CHECKS.dueTrap("Dp{a=a+1;Y{Pp;}F{!a;a=a-1;}!9;}M{Pp;}", 6, 8, 7, 6, 5, 4, 3, 2, 1);
        LeavingMachine machine = CHECKS.dueTrap("M{Y{@1{a=a+1;!a;}}F{b=7;}c=8;}", 7, 1, 2, 3, 4, 5, 6, 7, 8, 9, 10, 11, 12, 13,
            14, 15, 16, 17, 18, 19, 20, 21, 22, 23, 24);
        CHECKS.due("b, which the F block changed", machine.variable(1), 7);
        CHECKS.due("c, behind the Y", machine.variable(2), 0);
        // A TRAP in an F block counts instead of what was raised before, and of another TRAP.
        CHECKS.dueTrap("Dp{Pp;}M{Y{!1/0;}F{Pp;}}", 6);
        CHECKS.dueTrap("Dp{Pp;}M{Y{Pp;}F{!1/0;}}", 5);
        CHECKS.dueTrap("M{Y{Y{T05;}F{!1/0;}}K0a{!8;}}", 5);
    }

    private static void doneOnceAndInOrder() {
        CHECKS.sentence("A Y's F block is done whenever its first block, and the catch's if there was one, is left or at its end");
        due("M{Y{!1;}F{!2;}!3;}", 1, 2, 3);
        due("M{Y{}F{}!3;}", 3);
        due("M{Y{}F{!2;}!3;}", 2, 3);
        due("M{Y{T01;}K0a{!a;}F{!2;}!3;}", 1, 2, 3);
        due("M{Y{?0{T01;}{}}K0a{!8;}F{!2;}!3;}", 2, 3);
        due("M{Y{Y{T05;}F{!1;}!8;}K0a{!a;}F{!2;}!3;}", 1, 5, 2, 3);
        due("M{Y{Y{T05;}K0a{T16;}F{!1;}!8;}K1b{!b;}F{!2;}}", 1, 6, 2);
        due("Dp0{Y{T05;}F{!1;}}Dq0{Y{Pp;}F{!2;}}M{Y{Pq;}K0a{!a;}F{!3;}}", 1, 2, 5, 3);
        due("M{@a<3{a=a+1;Y{}F{!a;}}}", 1, 2, 3);
    }

    private static void wayGoesOnUnlessLeft() {
        CHECKS.sentence("then that way goes on, unless the F block is left itself");
        // What happens in the F block, but does not leave it, changes neither the way nor what was raised.
        String[] flat = {"@1{B;}", "@c<1{c=c+1;C;}", "Y{T19;}K1d{}", "Pq;", "Pr;", "Y{}F{}", "Y{Pr;}F{}"};
        String[] deep = {"Y{Y{T19;}K1d{X;}}K1d{}", "@1{Y{R;}F{B;}}", "@1{Y{!1/0;}F{B;}}", "@1{Y{T19;}F{B;}}"};
        String rest = "Dq{R;}Dr{Y{T39;}K3e{}}M{Y{Pp;!3;}K0a{!a;}K1b{!b;}}";
        for (String inner : flat) {
            dueGoesOn(inner, rest);
            due("Dp01{@1{Y{B;}F{" + inner + "}!8;}!2;}" + rest, 2, 3);
            due("Dp01{@a<2{a=a+1;Y{C;}F{" + inner + "}!8;}!a;}" + rest, 2, 3);
        }
        for (String inner : deep) {
            dueGoesOn(inner, rest);
        }
    }

    private static void dueGoesOn(String inner, String rest) {
        due("Dp01{Y{}F{" + inner + "}!2;}" + rest, 2, 3);
        due("Dp01{Y{R;}F{" + inner + "}!8;}" + rest, 3);
        due("Dp01{Y{T05;}F{" + inner + "}!8;}" + rest, 5);
        due("Dp01{Y{T05;}K0f{X;}F{" + inner + "}!8;}" + rest, 5);
        due("Dp01{Y{T07;}K0f{T15;}F{" + inner + "}!8;}" + rest, 5);
        CHECKS.dueTrap("Dp01{Y{!1/0;}F{" + inner + "}!8;}" + rest, 5);
    }

    private static void onlyTheLastWayCounts() {
        CHECKS.sentence("unless the F block is left itself: then only that counts");
        due("M{Y{Y{T05;}F{T06;}}K0a{!a;}}", 6);
        due("M{Y{Y{T05;}K0a{X;}F{T06;}}K0b{!b;}}", 6);
        due("M{Y{Y{!1/0;}F{T06;}}K0a{!a;}!3;}", 6, 3);
        due("M{Y{Y{T05;}F{T16;}}K0a{!8;}K1b{!b;}!a;}", 6, 0);
        due("Dp0{Y{T05;}F{R;}}M{Y{Pp;!1;}K0a{!8;}!a;}", 1, 0);
        due("Dp0{@1{Y{T05;}F{B;}}!2;}M{Y{Pp;!1;}K0a{!8;}}", 2, 1);
        due("Dp0{@a<2{a=a+1;Y{T05;}F{C;}!8;}!a;}M{Y{Pp;!1;}K0b{!8;}}", 2, 1);
        // What was raised before and then lost does not come back.
        due("Dp0{Y{T05;}F{R;}}M{Y{Pp;Y{}F{}Pp;}K0a{!8;}F{!1;}!2;}", 1, 2);
        due("M{@a<2{a=a+1;Y{!1/0;}F{C;}}Y{}F{!1;}!2;}", 1, 2);
        due("Dp0{Y{T05;}F{R;}}M{Y{Pp;T06;}K0a{!a;}}", 6);
    }

    private static void due(String text, int... outs) {
        CHECKS.dueRun(text, 3000, 0, outs);
    }
}
