import java.util.ArrayList;
import java.util.HashSet;
import java.util.List;
import java.util.Set;
import java.util.TreeSet;

/**
 * A second way to read, check and run a text, for the random tests: it shares no thought with the class
 * under test where it can, so ways out are Java's own exceptions and F blocks are Java's own finally.
 */
final class Model {
    private static final class Wrong extends RuntimeException {
        private static final long serialVersionUID = 1;
    }

    /** Something that leaves blocks; kind is B, C, R, T for what is raised, or 0 for no more fuel. */
    private static final class Leaving extends RuntimeException {
        private static final long serialVersionUID = 1;
        final char kind;
        final int tag;
        final int value;

        Leaving(char kind, int tag, int value) {
            super(null, null, false, false);
            this.kind = kind;
            this.tag = tag;
            this.value = value;
        }
    }

    private record Taker(int tag, int variable, List<Node> block) { }

    private record Procedure(char name, Set<Integer> tags, List<Node> block) { }

    private static final class Node {
        char kind;
        int operand;
        String expression;
        List<Node> one;
        List<Node> two;
        final List<Taker> takers = new ArrayList<>();
        boolean inLoop;
        int taken = -1;
        boolean behind;
    }

    private final String text;
    private int at;
    private boolean inLoop;
    private int innermost = -1;
    private boolean inVain;

    final List<Node> nodes = new ArrayList<>();
    final List<Procedure> procedures = new ArrayList<>();
    private Procedure main;

    int outcome;
    int given;
    int fuel;
    int underWay;
    int most;
    int tag;
    int value;
    final int[] variables = new int[8];
    final List<Integer> outs = new ArrayList<>();

    Model(String text) {
        this.text = text;
    }

    int check() {
        try {
            read();
        } catch (Wrong e) {
            return 1;
        }
        for (Node node : nodes) {
            if ((node.kind == 'B' || node.kind == 'C') && !node.inLoop || node.kind == 'X' && node.taken < 0) {
                return 2;
            }
            if (node.kind == 'P' && find(node.operand) == null) {
                return 3;
            }
            if (node.behind) {
                return 4;
            }
        }
        Set<Character> names = new HashSet<>();
        for (Procedure procedure : procedures) {
            if (!names.add(procedure.name())) {
                return 3;
            }
        }
        boolean bad = !raises(main.block()).isEmpty();
        for (Procedure procedure : procedures) {
            bad |= !procedure.tags().containsAll(raises(procedure.block()));
        }
        return bad || inVain ? 5 : 0;
    }

    int raisesBits(int p) {
        return raises(procedures.get(p).block()).stream().mapToInt(each -> 1 << each).sum();
    }

    private void read() {
        while (at < text.length() && text.charAt(at) == 'D') {
            at++;
            char name = oneOf("pqr");
            Set<Integer> tags = new TreeSet<>();
            int last = -1;
            while (at < text.length() && "01234".indexOf(text.charAt(at)) >= 0) {
                int next = text.charAt(at++) - '0';
                if (next <= last) {
                    throw new Wrong();
                }
                last = next;
                tags.add(next);
            }
            procedures.add(new Procedure(name, tags, block(1)));
        }
        if (procedures.size() > 3) {
            throw new Wrong();
        }
        oneOf("M");
        main = new Procedure('M', Set.of(), block(1));
        if (at != text.length()) {
            throw new Wrong();
        }
    }

    private char oneOf(String characters) {
        if (at >= text.length() || characters.indexOf(text.charAt(at)) < 0) {
            throw new Wrong();
        }
        return text.charAt(at++);
    }

    private boolean comes(char character) {
        return at < text.length() && text.charAt(at) == character;
    }

    private List<Node> block(int depth) {
        oneOf("{");
        if (depth > 4) {
            throw new Wrong();
        }
        List<Node> block = new ArrayList<>();
        char before = 0;
        while (!comes('}')) {
            Node node = new Node();
            nodes.add(node);
            block.add(node);
            node.inLoop = inLoop;
            node.taken = innermost;
            node.behind = "BCRTX".indexOf(before) >= 0;
            statement(node, depth);
            before = node.kind;
        }
        at++;
        return block;
    }

    private void statement(Node node, int depth) {
        char kind = oneOf("abcdefgh!?@BCRTXPY");
        node.kind = kind >= 'a' ? '=' : kind;
        if (node.kind == '=') {
            node.operand = kind - 'a';
            oneOf("=");
        } else if (kind == 'T') {
            node.operand = oneOf("01234") - '0';
        } else if (kind == 'P') {
            node.operand = oneOf("pqr");
        }
        if ("=!?@T".indexOf(node.kind) >= 0) {
            int from = at;
            expression(0);
            node.expression = text.substring(from, at);
        }
        if (kind == '?') {
            node.one = block(depth + 1);
            node.two = block(depth + 1);
        } else if (kind == '@') {
            boolean outer = inLoop;
            inLoop = true;
            node.one = block(depth + 1);
            inLoop = outer;
        } else if (kind == 'Y') {
            tries(node, depth);
        } else {
            oneOf(";");
        }
    }

    private void tries(Node node, int depth) {
        node.one = block(depth + 1);
        Set<Integer> tags = new HashSet<>();
        while (comes('K')) {
            at++;
            int caught = oneOf("01234") - '0';
            int variable = oneOf("abcdefgh") - 'a';
            int outer = innermost;
            innermost = caught;
            node.takers.add(new Taker(caught, variable, block(depth + 1)));
            innermost = outer;
            if (!tags.add(caught) || tags.size() > 3) {
                throw new Wrong();
            }
        }
        if (comes('F')) {
            at++;
            node.two = block(depth + 1);
        } else if (tags.isEmpty()) {
            throw new Wrong();
        }
    }

    private void expression(int depth) {
        term(depth);
        while (at < text.length() && "+-*/<".indexOf(text.charAt(at)) >= 0) {
            at++;
            term(depth);
        }
    }

    private void term(int depth) {
        if (comes('(')) {
            if (depth == 3) {
                throw new Wrong();
            }
            at++;
            expression(depth + 1);
            oneOf(")");
            return;
        }
        int from = at;
        char first = oneOf("abcdefgh0123456789");
        while (first <= '9' && at < text.length() && Character.isDigit(text.charAt(at))) {
            at++;
        }
        if (at - from > 3) {
            throw new Wrong();
        }
    }

    private Procedure find(int name) {
        return procedures.stream().filter(each -> each.name() == name).findFirst().orElse(null);
    }

    private Set<Integer> raises(List<Node> block) {
        Set<Integer> tags = new TreeSet<>();
        for (Node node : block) {
            switch (node.kind) {
                case 'T' -> tags.add(node.operand);
                case 'X' -> tags.add(node.taken);
                case 'P' -> tags.addAll(find(node.operand).tags());
                default -> {
                    Set<Integer> own = node.one == null ? new TreeSet<>() : raises(node.one);
                    for (Taker taker : node.takers) {
                        inVain |= !own.contains(taker.tag());
                    }
                    for (Taker taker : node.takers) {
                        own.remove(taker.tag());
                    }
                    for (Taker taker : node.takers) {
                        tags.addAll(raises(taker.block()));
                    }
                    tags.addAll(own);
                    if (node.two != null) {
                        tags.addAll(raises(node.two));
                    }
                }
            }
        }
        return tags;
    }

    void perform(int all) {
        given = all;
        fuel = all;
        underWay = 0;
        most = 0;
        outs.clear();
        java.util.Arrays.fill(variables, 0);
        outcome = 0;
        try {
            all(main.block(), 0);
        } catch (Leaving leaving) {
            tag = leaving.tag;
            value = leaving.value;
            outcome = leaving.kind == 'T' ? 2 : leaving.kind == 0 ? 1 : 0;
        }
    }

    private void all(List<Node> block, int taken) {
        for (Node node : block) {
            pay();
            one(node, taken);
        }
    }

    private void pay() {
        if (fuel == 0) {
            throw new Leaving((char) 0, 0, 0);
        }
        fuel--;
    }

    private void one(Node node, int taken) {
        switch (node.kind) {
            case '=' -> variables[node.operand] = work(node);
            case '!' -> {
                int worked = work(node);
                if (outs.size() >= 24) {
                    throw new Leaving('T', 7, 0);
                }
                outs.add(worked);
            }
            case '?' -> all(work(node) == 0 ? node.two : node.one, taken);
            case '@' -> loop(node, taken);
            case 'T' -> throw new Leaving('T', node.operand, work(node));
            case 'X' -> throw new Leaving('T', node.taken, taken);
            case 'P' -> procedure(find(node.operand));
            case 'Y' -> withLast(node, taken);
            default -> throw new Leaving(node.kind, 0, 0);
        }
    }

    private void loop(Node node, int taken) {
        while (true) {
            pay();
            if (work(node) == 0) {
                return;
            }
            try {
                all(node.one, taken);
            } catch (Leaving leaving) {
                if (leaving.kind == 'B') {
                    return;
                }
                if (leaving.kind != 'C') {
                    throw leaving;
                }
            }
        }
    }

    private void procedure(Procedure procedure) {
        if (underWay >= 8) {
            throw new Leaving('T', 6, 0);
        }
        most = Math.max(most, ++underWay);
        try {
            all(procedure.block(), 0);
        } catch (Leaving leaving) {
            if (leaving.kind != 'R') {
                throw leaving;
            }
        } finally {
            underWay--;
        }
    }

    private void withLast(Node node, int taken) {
        boolean stopped = false;
        try {
            withTakers(node, taken);
        } catch (Leaving leaving) {
            stopped = leaving.kind == 0;
            throw leaving;
        } finally {
            if (node.two != null && !stopped) {
                all(node.two, taken);
            }
        }
    }

    private void withTakers(Node node, int taken) {
        try {
            all(node.one, taken);
        } catch (Leaving leaving) {
            for (Taker taker : node.takers) {
                if (leaving.kind == 'T' && leaving.tag == taker.tag()) {
                    variables[taker.variable()] = leaving.value;
                    all(taker.block(), leaving.value);
                    return;
                }
            }
            throw leaving;
        }
    }

    /** Works from the expression's characters, last operator first. */
    private int work(Node node) {
        try {
            return work(node.expression);
        } catch (ArithmeticException e) {
            throw new Leaving('T', 5, 0);
        }
    }

    private int work(String expression) {
        int depth = 0;
        for (int i = expression.length() - 1; i >= 0; i--) {
            char c = expression.charAt(i);
            depth += c == ')' ? 1 : c == '(' ? -1 : 0;
            if (depth == 0 && "+-*/<".indexOf(c) >= 0) {
                int left = work(expression.substring(0, i));
                int right = work(expression.substring(i + 1));
                return switch (c) {
                    case '+' -> left + right;
                    case '-' -> left - right;
                    case '*' -> left * right;
                    case '/' -> left / right;
                    default -> left < right ? 1 : 0;
                };
            }
        }
        if (expression.charAt(0) == '(') {
            return work(expression.substring(1, expression.length() - 1));
        }
        char first = expression.charAt(0);
        return first >= 'a' ? variables[first - 'a'] : Integer.parseInt(expression);
    }
}
