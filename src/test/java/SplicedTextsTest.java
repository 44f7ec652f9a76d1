import java.util.Arrays;

/**
 * "1 if it is not in the grammar": every beginning of a program with every end of another one (or of itself), and
 * every program with one character changed, against Model.
 */
public final class SplicedTextsTest {
    private static final Checks CHECKS = new Checks();
    private static final String CHARACTERS = "{};=!?@BCRTXPYKFDMpqrsabhi013459+-*/<()~";
    private static final String[] PROGRAMS = {
        "Dp01{?a{T0a;}{T112;}}M{Y{Pp;}K0b{!b;}K1c{R;}F{@a<(3*b){B;}}}",
        "Dq{}Dr34{Pq;Y{T399;}K3a{X;}}M{@(1){C;}Y{Y{Pr;}K4h{}}K3g{b=2;}}",
        "M{!((1+(2))*3);a=999;b=a/4-5<6;?a<b{R;}{!1;}Y{a=1;}F{!2;}}",
        "Dp{R;}Dq0{Pp;T0(a);}Dr{Y{Pq;}K0a{}}M{@1{?a{B;}{C;}}Pr;}",
        "M{?1+2{!1;}{!2;}@a+1{R;}Y{T01+2;}K0a{!3;}F{b=1+2;}R;}",
        "M{@1{@1{@1{B;}}}?1{?1{?1{R;}{}}{}}{}Y{Y{Y{}F{}}F{}}F{}!(((1)));}"};

    private final int[] compiled = new int[6];
    private LeavingMachine machine = new LeavingMachine();
    private int calls;

    public static void main(String[] args) {
        new SplicedTextsTest().compareAll();
    }

    private void compareAll() {
        CHECKS.sentence("1 if it is not in the grammar");
        for (String program : PROGRAMS) {
            CHECKS.dueCompile(program, 0);
            changed(program);
            for (String other : PROGRAMS) {
                spliced(program, other);
            }
        }
        System.out.println("compiled: " + Arrays.toString(compiled));
        CHECKS.end();
    }

    private void spliced(String program, String other) {
        for (int end = 0; end <= program.length(); end++) {
            for (int from = 0; from <= other.length(); from++) {
                compare(program.substring(0, end) + other.substring(from));
            }
        }
    }

    private void changed(String program) {
        for (int place = 0; place < program.length(); place++) {
            String before = program.substring(0, place);
            for (char character : CHARACTERS.toCharArray()) {
                compare(before + character + program.substring(place));
                compare(before + character + program.substring(place + 1));
            }
        }
    }

    private void compare(String text) {
        int needed = text.length() / 8 + 3;
        calls += needed;
        if (calls > 512) {
            machine = new LeavingMachine();
            calls = needed;
        }
        int want = new Model(text).check();
        compiled[want]++;
        CHECKS.retype(machine, text);
        CHECKS.due("compile of " + text, machine.compile(), want);
    }
}
