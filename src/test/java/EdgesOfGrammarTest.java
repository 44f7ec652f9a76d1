/** The edges of the GRAMMAR, sentence by sentence. */
public final class EdgesOfGrammarTest {
    private static final Checks CHECKS = new Checks();
    // All characters that a text may have.
    private static final String CHARACTERS = characters();
    // Blocks that can lie in a block; the next one comes where the dot is.
    private static final String[] NESTS = {"?1{.}{}", "?1{}{.}", "@1{.}", "Y{.}F{}", "Y{T01;}K0a{.}", "Y{}F{.}"};

    public static void main(String[] args) {
        atMostThreeProcedures();
        thenM();
        names();
        tags();
        blocks();
        statementsBegin();
        statementsAreWhole();
        fullTextsAreWhole();
        upToThreeCatches();
        atLeastOneCatchOrF();
        noTagInTwoCatches();
        variables();
        termsAsOftenAsOneLikes();
        terms();
        tagIsADigit();
        blocksFourDeep();
        bracketsThreeDeep();
        threeDigits();
        CHECKS.end();
    }

    private static String characters() {
        StringBuilder characters = new StringBuilder();
        for (char c = 33; c <= 126; c++) {
            characters.append(c);
        }
        return characters.toString();
    }

    /** The text, with each character where the dot is: 0 if it is one of those that fit, else WRONG 1. */
    private static void dueOneOf(String text, String fitting) {
        int dot = text.indexOf('.');
        for (char c : CHARACTERS.toCharArray()) {
            String with = text.substring(0, dot) + c + text.substring(dot + 1);
            CHECKS.dueCompile(with, fitting.indexOf(c) >= 0 ? 0 : 1);
        }
    }

    private static void atMostThreeProcedures() {
        CHECKS.sentence("program: procedures, at most 3, then M block.");
        CHECKS.dueCompiles(0, "M{}", "Dp{}M{}", "Dp{}Dq{}M{}", "Dp{}Dq{}Dr{}M{}", "Dr{}Dq{}Dp{}M{}");
        CHECKS.dueCompiles(1, "Dp{}Dq{}Dr{}Dp{}M{}", "Dp{}Dq{}Dr{}Ds{}M{}", "Dp{}Dp{}Dp{}Dp{}M{}",
            "Dp{}Dq{}Dr{}Dp{}Dq{}M{}", "Dp{}".repeat(39) + "M{}");
        int[] most = {0, 1, 2, 3};
        String procedures = "Dp{}Dq{}Dr{}";
        for (int n : most) {
            CHECKS.due("look(2)", CHECKS.compiled(procedures.substring(0, 4 * n) + "M{}").look(2), n);
        }
    }

    private static void thenM() {
        CHECKS.sentence("program: procedures, at most 3, then M block.");
        CHECKS.dueCompiles(1, "", "M", "{}", "M{", "M}", "Dp{}", "Dp{}Dq{}Dr{}", "M{}Dp{}", "Dp{}M{}Dq{}", "M{}M{}",
            "MM{}", "Dp{}{}", "Dp{}MDq{}{}", "M0{}", "Mp{}", "m{}", "dp{}M{}");
        dueOneOf(".{}", "M");
        dueOneOf("M{}.", "");
        dueOneOf("Dp{}M{}.", "");
        dueOneOf(".M{}", "");
    }

    private static void names() {
        CHECKS.sentence("procedure: D, a NAME p, q or r, TAGS (digits 0 .. 4, rising, perhaps none), block.");
        dueOneOf("D.{}M{}", "pqr");
        dueOneOf(".p{}M{}", "D");
        CHECKS.dueCompiles(1, "D{}M{}", "D0{}M{}", "Dpp{}M{}", "Dpq{}M{}", "D0p{}M{}", "DM{}", "DDp{}M{}", "DpM{}");
        for (char name = 'p'; name <= 'r'; name++) {
            CHECKS.dueRun("D" + name + "{!4;}M{P" + name + ";}", 9, 0, 4);
        }
        CHECKS.dueCompiles(1, "M{Po;}", "M{Ps;}", "M{P;}", "M{PP;}", "M{Ppp;}", "M{Pp}");
    }

    private static void tags() {
        CHECKS.sentence("TAGS (digits 0 .. 4, rising, perhaps none)");
        for (int bits = 0; bits < 32; bits++) {
            StringBuilder rising = new StringBuilder();
            for (int tag = 0; tag < 5; tag++) {
                rising.append((bits >> tag & 1) == 0 ? "" : Integer.toString(tag));
            }
            CHECKS.dueCompile("Dp" + rising + "{}M{}", 0);
            if (rising.length() > 1) {
                CHECKS.dueCompile("Dp" + rising.reverse() + "{}M{}", 1);
            }
        }
        for (int one = 0; one < 10; one++) {
            CHECKS.dueCompile("Dp" + one + "{}M{}", one < 5 ? 0 : 1);
            for (int two = 0; two < 10; two++) {
                CHECKS.dueCompile("Dp" + one + two + "{}M{}", one < two && two < 5 ? 0 : 1);
                CHECKS.dueCompile("Dp0" + one + two + "{}M{}", 0 < one && one < two && two < 5 ? 0 : 1);
            }
        }
        CHECKS.dueCompiles(1, "Dp012345{}M{}", "Dp012344{}M{}", "Dp012340{}M{}", "Dp0,1{}M{}", "Dp0{}1M{}");
        dueOneOf("Dp.{}M{}", "01234");
    }

    private static void blocks() {
        CHECKS.sentence("block: \"{\" statements \"}\".");
        CHECKS.dueCompiles(0, "M{}", "M{R;}", "M{a=1;R;}", "Dp{}M{?1{}{}@1{}Y{}F{}}");
        CHECKS.dueCompiles(1, "M{", "M{{}}", "M{{}", "M{}}", "M{;}", "M{a=1;;}", "M(a=1;)", "M[]", "Ma=1;", "M{a=1;",
            "Dp{M{}", "DpM{}", "M{?1{}{}", "M{@1{}");
        CHECKS.due("statements of 160 characters", CHECKS.compiled("M{" + "?a{}{}".repeat(26) + "}").look(3), 26);
        dueOneOf("M.}", "{");
        dueOneOf("M{.", "}");
    }

    private static void statementsBegin() {
        CHECKS.sentence("statement: v = expr ; or ! expr ; or ? expr block block or @ expr block or B ; or C ; or R ;"
            + " or T tag expr ; or X ; or P name ; or Y block");
        dueOneOf("M{.=1;}", "abcdefgh");
        dueOneOf("M{.1;}", "!");
        dueOneOf("M{.1{}{}}", "?");
        dueOneOf("M{.1{}}", "@");
        dueOneOf("M{.{}F{}}", "Y");
        dueOneOf("Dp{}M{.p;}", "P");
        dueOneOf("Dp0{.01;}M{}", "!T");
        dueOneOf("Dp0{Y{T01;}K0a{@1{.;}}}M{}", "BCRX");
        // A B, C or X that stands here is WRONG 2, so it is in the grammar.
        for (char c : CHARACTERS.toCharArray()) {
            CHECKS.dueCompile("M{" + c + ";}", c == 'R' ? 0 : "BCX".indexOf(c) >= 0 ? 2 : 1);
        }
    }

    private static void statementsAreWhole() {
        CHECKS.sentence("1 if it is not in the grammar");
        String[] programs = {"Dp01{?a{T0a;}{T112;}}M{Y{Pp;}K0b{!b;}K1c{R;}F{@a<(3*b){B;}}}",
            "Dq{}Dr34{Pq;Y{T399;}K3a{X;}}M{@(1){C;}Y{Y{Pr;}K4h{}}K3g{b=2;}}",
            "M{!((1+(2))*3);a=999;b=a/4-5<6;?a<b{R;}{}Y{}F{}}"};
        for (String program : programs) {
            CHECKS.dueCompile(program, 0);
            for (int length = 0; length < program.length(); length++) {
                CHECKS.dueCompile(program.substring(0, length), 1);
            }
            for (char c : CHARACTERS.toCharArray()) {
                CHECKS.dueCompile(program + c, 1);
            }
        }
        CHECKS.dueCompiles(1, "M{a=1}", "M{a=;}", "M{a;}", "M{a1;}", "M{a==1;}", "M{!1}", "M{!;}", "M{?1{}}", "M{?{}{}}",
            "M{?1{}{};}", "M{?1{}{}{}}", "M{?1;{}{}}", "M{@1}", "M{@{}}", "M{@1{}{}}", "M{@1{};}", "M{B}", "M{C}", "M{R}",
            "M{X}", "M{R1;}", "M{B1;}", "M{X0;}", "M{T;}", "M{T0;}", "M{T1}", "M{T0a}", "M{Pp}", "M{P;}", "M{Y;}", "M{Y}");
    }

    /** Texts of all 160 characters that break off at each place of a program. */
    private static void fullTextsAreWhole() {
        CHECKS.sentence("THE TEXT has at most 160 characters 33 .. 126.");
        String statements = "!(1+(b))*345;?a<6{R;}{Y{}F{a=1;}}Y{?a{T012;}{T1(a);}}K0c{b=2;}K1d{!1;}F{@9{B;}@a{C;}}R;";
        for (int length = 0; length <= statements.length(); length++) {
            String part = statements.substring(0, length);
            CHECKS.dueCompile("M{" + padding(158 - length) + part, 1);
        }
        CHECKS.dueCompile("M{" + padding(157 - statements.length()) + statements + "}", 0);
        String procedure = "Dp012{}";
        for (int length = 0; length < procedure.length(); length++) {
            String part = procedure.substring(0, length);
            CHECKS.dueCompile("Dq{" + padding(156 - length) + "}" + part, 1);
        }
        CHECKS.dueCompile("Dq{" + padding(155) + "}M", 1);
        CHECKS.dueCompile("Dq{" + padding(154) + "}M{", 1);
        CHECKS.dueCompile("Dq{" + padding(153) + "}M{}", 0);
        CHECKS.dueCompile("M{" + padding(156) + "}}", 1);
    }

    /** Statements of that many characters, which must be 12 or more. */
    private static String padding(int length) {
        int fives = length % 4;
        return "a=10;".repeat(fives) + "a=1;".repeat((length - 5 * fives) / 4);
    }

    private static void upToThreeCatches() {
        CHECKS.sentence("Y block, then up to 3 catches K tag v block, and perhaps F block");
        String body = "Y{?a{T01;}{}?b{T11;}{}?c{T21;}{}}";
        CHECKS.dueCompiles(0, "M{" + body + "K0a{}K1b{}K2c{}}", "M{" + body + "K2a{}K1b{}K0c{}F{}}",
            "M{Y{?a{T01;}{T11;}}K0a{}K1b{}}", "M{Y{T01;}K0a{}}", "M{Y{T01;}K0a{}F{}}", "M{Y{}F{}}");
        String four = "Y{?a{T01;}{T11;}?b{T21;}{T31;}}";
        CHECKS.dueCompiles(0, "Dp3{" + four + "K0a{}K1a{}K2a{}}M{}");
        CHECKS.dueCompiles(1, "M{" + four + "K0a{}K1a{}K2a{}K3a{}}", "M{" + four + "K0a{}K1a{}K2a{}K3a{}F{}}",
            "M{" + four + "K0a{}K1a{}K2a{}F{}K3a{}}", "M{Y{T01;}F{}K0a{}}", "M{Y{}F{}F{}}", "M{Y{T01;}K0a{}F{}F{}}",
            "M{Y{}K0a{}K1a{}K2a{}K3a{}K4a{}}");
        CHECKS.dueCompiles(1, "M{Y{T01;}K0a}", "M{Y{T01;}K0{}}", "M{Y{T01;}Ka{}}", "M{Y{T01;}K{}}", "M{Y{T01;}Ka0{}}",
            "M{Y{T01;}K0ab{}}", "M{Y{T01;}K0a{}{}}", "M{Y{T01;};K0a{}}", "M{Y{}F}", "M{Y{}F;}", "M{YK0a{}}", "M{YF{}}",
            "M{K0a{}}", "M{F{}}");
        // As many catches as a text can have; all of them are in vain.
        CHECKS.dueCompile("M{" + "Y{}K0a{}K1a{}K2a{}".repeat(8) + "Y{}K0a{}K1a{}}", 5);
        LeavingMachine machine = CHECKS.dueRun("Dp012{?a{?a-1{T29;}{T18;}}{T07;}}"
            + "M{@a<3{Y{Pp;}K1d{!d;}K2e{!e;}K0c{!c;}F{a=a+1;}}}", 99, 0, 7, 8, 9);
        CHECKS.due("the variable of the last catch", machine.variable(2), 7);
        CHECKS.due("the variable of the first catch", machine.variable(3), 8);
        CHECKS.due("the variable of the second catch", machine.variable(4), 9);
    }

    private static void atLeastOneCatchOrF() {
        CHECKS.sentence("(at least one catch or F; no tag in two catches of one Y)");
        CHECKS.dueCompiles(1, "M{Y{}}", "M{Y{!1;}}", "M{Y{T01;}}", "M{Y{}Y{}F{}}", "M{Y{}!1;}", "Dp{Y{}}M{}",
            "M{Y{Y{}}F{}}", "M{Y{T01;}K0a{Y{}}}", "M{Y{}F{Y{}}}");
        CHECKS.dueCompiles(0, "M{Y{}F{}}", "M{Y{T01;}K0a{}}");
    }

    private static void noTagInTwoCatches() {
        CHECKS.sentence("(at least one catch or F; no tag in two catches of one Y)");
        for (int tag = 0; tag < 5; tag++) {
            String catches = "K" + tag + "a{}";
            int other = (tag + 1) % 5;
            String both = "M{Y{?a{T" + tag + "1;}{T" + other + "1;}}";
            CHECKS.dueCompiles(1, both + catches + catches + "}", both + catches + "K" + other + "b{}" + catches + "}",
                both + "K" + other + "b{}" + catches + catches + "}", both + catches + "K" + tag + "b{}F{}}");
            CHECKS.dueCompiles(0, both + catches + "K" + other + "a{}}");
            String one = "Y{T" + tag + "1;}" + catches;
            CHECKS.dueCompiles(0, "M{" + one + one + "}", "M{Y{T" + tag + "1;}K" + tag + "a{" + one + "}}",
                "M{Y{T" + tag + "1;}" + catches + "F{" + one + "}}");
        }
    }

    private static void variables() {
        CHECKS.sentence("v is a VARIABLE a .. h.");
        dueOneOf("M{.=1;}", "abcdefgh");
        dueOneOf("M{Y{T01;}K0.{}}", "abcdefgh");
        dueOneOf("M{!.;}", "abcdefgh0123456789");
        dueOneOf("M{!1+.;}", "abcdefgh0123456789");
        for (int k = 0; k < 8; k++) {
            char name = (char) ('a' + k);
            LeavingMachine machine = CHECKS.dueRun("M{" + name + "=7;!" + name + "*2;Y{T0" + name + ";}K0" + name + "{"
                + name + "=" + name + "+1;}}", 9, 0, 14);
            for (int other = 0; other < 8; other++) {
                CHECKS.due("variable(" + other + ")", machine.variable(other), other == k ? 8 : 0);
            }
        }
    }

    private static void termsAsOftenAsOneLikes() {
        CHECKS.sentence("expr: term, then + - * / < and a term as often as one likes (all from the left, none is stronger)");
        CHECKS.dueRun("M{!1;}", 1, 0, 1);
        for (int more : new int[] {1, 2, 76, 77}) {
            CHECKS.dueRun("M{!1" + "+1".repeat(more) + ";}", 1, 0, 1 + more);
            CHECKS.dueRun("M{!1" + "-1".repeat(more) + ";}", 1, 0, 1 - more);
            CHECKS.dueCompile("M{!1" + "+1".repeat(more - 1) + "+;}", 1);
        }
        CHECKS.dueRun("M{!(1" + "+1".repeat(34) + ")-(1" + "+1".repeat(39) + ");}", 1, 0, -5);
        dueOneOf("M{!9.3;}", "+-*/<0123456789");
        String operators = "+-*/<";
        for (char one : operators.toCharArray()) {
            for (char two : operators.toCharArray()) {
                int fromLeft = apply(two, apply(one, 7, 3), 2);
                CHECKS.dueRun("M{!7" + one + "3" + two + "2;}", 1, 0, fromLeft);
                CHECKS.dueRun("M{!(7" + one + "3)" + two + "2;}", 1, 0, fromLeft);
                int right = apply(two, 3, 2);
                if (one != '/' || right != 0) {
                    CHECKS.dueRun("M{!7" + one + "(3" + two + "2);}", 1, 0, apply(one, 7, right));
                }
                CHECKS.dueCompile("M{!7" + one + two + "3;}", 1);
            }
            CHECKS.dueCompiles(1, "M{!" + one + "1;}", "M{!1" + one + ";}", "M{!(1" + one + ");}", "M{!(" + one + "1);}");
        }
    }

    private static int apply(char operator, int left, int right) {
        switch (operator) {
            case '+': return left + right;
            case '-': return left - right;
            case '*': return left * right;
            case '/': return left / right;
            default: return left < right ? 1 : 0;
        }
    }

    private static void terms() {
        CHECKS.sentence("term: one to three digits, a variable, or ( expr ).");
        CHECKS.dueCompiles(0, "M{!0;}", "M{!10;}", "M{!100;}", "M{!h;}", "M{!(1);}", "M{!(a)+(b);}", "M{!(1<2)*(3);}");
        CHECKS.dueCompiles(1, "M{!;}", "M{!();}", "M{!(1;}", "M{!1);}", "M{!(1));}", "M{!((1);}", "M{!ab;}", "M{!a1;}",
            "M{!1a;}", "M{!1(2);}", "M{!(1)2;}", "M{!(1)(2);}", "M{!(a)b;}", "M{!(1+);}", "M{?(){}{}}", "M{!)1(;}",
            "M{!(1;)}", "M{!-1;}", "M{!+1;}");
    }

    private static void tagIsADigit() {
        CHECKS.sentence("A tag is a digit 0 .. 4.");
        for (int tag = 0; tag < 10; tag++) {
            String text = "Dp01234{T" + tag + "7;}M{}";
            CHECKS.dueCompile(text, tag < 5 ? 0 : 1);
            CHECKS.dueCompile("Dp01234{}M{Y{Pp;}K" + tag + "a{}}", tag < 5 ? 5 : 1);
            if (tag < 5) {
                CHECKS.dueRun("M{Y{T" + tag + "7;}K" + tag + "a{!a;}}", 9, 0, 7);
            }
        }
        dueOneOf("Dp01234{T.a;}M{}", "01234");
        CHECKS.dueCompiles(1, "Dp01234{Ta;}M{}", "Dp01234{T(0)a;}M{}", "Dp01234{T0;}M{}");
    }

    private static void blocksFourDeep() {
        CHECKS.sentence("Blocks lie at most 4 deep (the block of a procedure or of M being the first)");
        for (String one : NESTS) {
            dueNested(nest(one, ""), 0);
            for (String two : NESTS) {
                dueNested(nest(one, nest(two, "")), 0);
                for (String three : NESTS) {
                    dueNested(nest(one, nest(two, nest(three, ""))), 0);
                    for (String four : NESTS) {
                        dueNested(nest(one, nest(two, nest(three, nest(four, "")))), 1);
                    }
                }
            }
        }
        CHECKS.dueCompile("M{" + "@1{@1{@1{}}}".repeat(13) + "}", 0);
        CHECKS.dueCompile("M{@1{@1{@1{}}}@1{@1{@1{@1{}}}}}", 1);
        CHECKS.dueCompile("M" + "{".repeat(159), 1);
        CHECKS.dueCompile("M{" + "@1{".repeat(52), 1);
    }

    private static String nest(String outer, String inner) {
        int dot = outer.indexOf('.');
        return outer.substring(0, dot) + inner + outer.substring(dot + 1);
    }

    private static void dueNested(String statement, int want) {
        CHECKS.dueCompile("M{" + statement + "}", want);
        CHECKS.dueCompile("Dp{" + statement + "}M{}", want);
    }

    private static void bracketsThreeDeep() {
        CHECKS.sentence("brackets at most 3 deep");
        String[] places = {"M{a=.;}", "M{!.;}", "M{?.{}{}}", "M{@.{}}", "Dp0{T0.;}M{}", "M{!1+.;}", "M{!.-1;}",
            "M{!(1)+.;}", "M{?a{!.;}{}}"};
        for (String place : places) {
            for (int deep = 0; deep <= 9; deep++) {
                String brackets = "(".repeat(deep) + "1" + ")".repeat(deep);
                CHECKS.dueCompile(nest(place, brackets), deep <= 3 ? 0 : 1);
            }
            CHECKS.dueCompiles(0, nest(place, "(((1))+((2)))*(((3)))"), nest(place, "(1+(2+(3+4)))"),
                nest(place, "(((1+2)+3)+4)"));
            CHECKS.dueCompiles(1, nest(place, "(1+(2+(3+(4))))"), nest(place, "((((1)+2)+3)+4)"),
                nest(place, "(((1)))+((((1))))"), nest(place, "((1)+((2)+((3))))"));
        }
        CHECKS.dueRun("M{!1-(2-(3-(4-5)));!(((1-2)-3)-4)-5;!9-((8-(7-1))*(1+(2*3)));}", 3, 0, 3, -13, -5);
        CHECKS.dueCompile("M{!" + "(".repeat(157), 1);
    }

    private static void threeDigits() {
        CHECKS.sentence("A number is read as long as digits come; a fourth one is wrong.");
        CHECKS.dueRun("M{!0;!9;!00;!99;!000;!007;!070;!999;}", 8, 0, 0, 9, 0, 99, 0, 7, 70, 999);
        CHECKS.dueCompiles(1, "M{!0000;}", "M{!0001;}", "M{!1000;}", "M{!9999;}", "M{!12345;}", "M{a=1234;}",
            "M{?1234{}{}}", "M{@1234{}}", "M{!(1234);}", "M{!1+1234;}", "M{!a*0000;}", "M{!1234567890123;}",
            "M{!" + "0".repeat(155) + ";}");
        // T's tag is no digit of the number behind it.
        CHECKS.dueRun("M{Y{T4999;}K4a{!a;}Y{T0000;}K0a{!a;}Y{T11;}K1a{!a;}}", 99, 0, 999, 0, 1);
        CHECKS.dueCompiles(1, "M{Y{T49999;}K4a{}}", "M{Y{T00000;}K0a{}}", "M{Y{T0;}K0a{}}");
        for (int number = 0; number < 1000; number += 37) {
            CHECKS.dueRun("M{!" + number + ";}", 1, 0, number);
        }
    }
}
