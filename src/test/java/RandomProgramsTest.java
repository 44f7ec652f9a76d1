import java.util.Random;

/** Compares the class with Model on random texts; the seed is fixed, so the texts are always the same. */
public final class RandomProgramsTest {
    private static final int TEXTS = 120_000;
    private static final int CALLS = 512;
    private static final Checks CHECKS = new Checks();
    private static final int[] COMPILED = new int[6];
    private static final int[] OUTCOMES = new int[3];
    private static final int[] TRAPS = new int[8];

    private final Random random = new Random(20261115);
    private StringBuilder text;
    private String declared;

    public static void main(String[] args) {
        new RandomProgramsTest().compareAll();
        dueAllSeen("compile", COMPILED);
        dueAllSeen("run", OUTCOMES);
        for (int trap = 5; trap <= 7; trap++) {
            CHECKS.due("some random program ends by trap " + trap, TRAPS[trap] > 0, true);
        }
        System.out.println("compiled: " + java.util.Arrays.toString(COMPILED) + ", outcomes: "
            + java.util.Arrays.toString(OUTCOMES) + ", raised: " + java.util.Arrays.toString(TRAPS));
        CHECKS.end();
    }

    private static void dueAllSeen(String call, int[] counts) {
        for (int answer = 0; answer < counts.length; answer++) {
            CHECKS.due("some random text answers " + answer + " to " + call, counts[answer] > 0, true);
        }
    }

    private void compareAll() {
        LeavingMachine machine = new LeavingMachine();
        int calls = 0;
        for (int n = 0; n < TEXTS; n++) {
            String program = program();
            // Rows are used again, so one object takes as many texts as its calls allow.
            if (calls > CALLS - 150) {
                machine = new LeavingMachine();
                calls = 0;
            }
            calls += 150;
            CHECKS.retype(machine, program);
            compare(machine, program);
        }
    }

    private void compare(LeavingMachine machine, String program) {
        Model model = new Model(program);
        int wrong = model.check();
        CHECKS.due("compile of " + program, machine.compile(), wrong);
        COMPILED[wrong]++;
        CHECKS.due("look(1) of " + program, machine.look(1), wrong == 0 ? 1 : 0);
        CHECKS.due("look(2) of " + program, machine.look(2), wrong == 0 ? model.procedures.size() : 0);
        CHECKS.due("look(3) of " + program, machine.look(3), wrong == 0 ? model.nodes.size() : 0);
        if (wrong != 0 || machine.look(1) == 0) {
            return;
        }
        for (int p = 0; p < model.procedures.size(); p++) {
            CHECKS.due("raises(" + p + ") of " + program, machine.raises(p), model.raisesBits(p));
        }
        compareRun(machine, model, program, 3000);
        compareRun(machine, model, program, random.nextInt(60));
    }

    private void compareRun(LeavingMachine machine, Model model, String program, int fuel) {
        model.perform(fuel);
        String what = " of " + program + " with fuel " + fuel;
        CHECKS.due("run" + what, machine.run(fuel), model.outcome);
        OUTCOMES[model.outcome]++;
        CHECKS.due("look(4)" + what, machine.look(4), model.outcome);
        CHECKS.due("look(5)" + what, machine.look(5), model.outs.size());
        CHECKS.due("look(6)" + what, machine.look(6), fuel - model.fuel);
        CHECKS.due("look(7)" + what, machine.look(7), model.most);
        for (int i = 0; i < Math.min(model.outs.size(), machine.look(5)); i++) {
            CHECKS.due("out(" + i + ")" + what, machine.out(i), model.outs.get(i));
        }
        for (int k = 0; k < 8; k++) {
            CHECKS.due("variable(" + k + ")" + what, machine.variable(k), model.variables[k]);
        }
        if (model.outcome == 2 && machine.look(4) == 2) {
            TRAPS[model.tag]++;
            CHECKS.due("raised(false)" + what, machine.raised(false), model.tag);
            CHECKS.due("raised(true)" + what, machine.raised(true), model.value);
        }
    }

    private String program() {
        do {
            text = new StringBuilder();
            int procedures = random.nextInt(100) < 3 ? 4 : random.nextInt(3);
            declared = "";
            String names = random.nextInt(20) == 0 ? "ppqr" : "rpqr";
            for (int i = 0; i < procedures; i++) {
                procedure(names.charAt(i));
            }
            text.append('M');
            block(1, false, false, false);
        } while (text.length() > 160);
        return random.nextInt(8) == 0 ? spoiled() : text.toString();
    }

    private String spoiled() {
        String characters = "{}{};;=!?@BCRTXPYKFabcdefgh0123456789+-*/<()pqrDM";
        int place = random.nextInt(text.length());
        char character = characters.charAt(random.nextInt(characters.length()));
        switch (random.nextInt(3)) {
            case 0: text.setCharAt(place, character); break;
            case 1: text.deleteCharAt(place); break;
            default: text.insert(place, character); break;
        }
        return text.substring(0, Math.min(160, text.length()));
    }

    private void procedure(char name) {
        text.append('D').append(name);
        declared += name;
        for (char tag = '0'; tag <= '4'; tag++) {
            if (random.nextInt(3) > 0) {
                text.append(tag);
            }
        }
        block(1, true, false, false);
    }

    private void block(int depth, boolean mayRaise, boolean inLoop, boolean inCatch) {
        text.append('{');
        int statements = random.nextInt(4);
        for (int i = 0; i < statements && text.length() < 150; i++) {
            if (statement(depth, mayRaise, inLoop, inCatch) && random.nextInt(40) > 0) {
                break;
            }
        }
        text.append('}');
    }

    /** True if what it wrote always leaves its block. */
    private boolean statement(int depth, boolean mayRaise, boolean inLoop, boolean inCatch) {
        boolean mayNest = depth < 4 || random.nextInt(60) == 0;
        boolean sloppy = random.nextInt(40) == 0;
        switch (random.nextInt(14)) {
            case 0:
                return leave(inLoop || sloppy ? "B;" : "R;");
            case 1:
                return leave(inLoop || sloppy ? "C;" : "R;");
            case 2:
                return (inCatch && mayRaise || sloppy) && leave("X;");
            case 3:
            case 4:
                return (mayRaise || sloppy) && raise();
            case 5:
            case 6:
                if (mayNest) {
                    tries(depth, mayRaise, inLoop, inCatch);
                    return false;
                }
                break;
            case 7:
                if (mayNest) {
                    text.append('?');
                    expression(0);
                    block(depth + 1, mayRaise, inLoop, inCatch);
                    block(depth + 1, mayRaise, inLoop, inCatch);
                    return false;
                }
                break;
            case 8:
                if (mayNest) {
                    text.append('@');
                    expression(0);
                    block(depth + 1, mayRaise, true, inCatch);
                    return false;
                }
                break;
            case 9:
            case 10:
                if (mayRaise || sloppy) {
                    text.append('P').append(sloppy || declared.isEmpty() ? 'q' : pick(declared)).append(';');
                    return false;
                }
                break;
            default:
                break;
        }
        text.append(random.nextBoolean() ? "!" : pick("abcd") + "=");
        expression(0);
        text.append(';');
        return false;
    }

    private boolean leave(String how) {
        text.append(how);
        return true;
    }

    private boolean raise() {
        text.append('T').append(pick("01234"));
        expression(0);
        text.append(';');
        return true;
    }

    private void tries(int depth, boolean mayRaise, boolean inLoop, boolean inCatch) {
        text.append('Y');
        int from = text.length();
        block(depth + 1, true, inLoop, inCatch);
        String tags = tagsIn(text.substring(from));
        boolean catches = !tags.isEmpty() && tags.length() <= 3 && random.nextInt(6) > 0;
        for (int i = 0; catches && i < tags.length(); i++) {
            text.append('K').append(tags.charAt(i)).append(pick("abcd"));
            block(depth + 1, mayRaise, inLoop, true);
        }
        if (!catches || random.nextBoolean()) {
            text.append('F');
            block(depth + 1, mayRaise, inLoop, inCatch);
        }
    }

    /** A guess at what a block raises, right often enough for many texts to compile. */
    private String tagsIn(String block) {
        String tags = "";
        for (char tag = '0'; tag <= '4'; tag++) {
            boolean comes = block.indexOf("T" + tag) >= 0;
            for (int i = 0; i < declared.length(); i++) {
                comes |= block.indexOf("P" + declared.charAt(i)) >= 0 && declaredTags(i).indexOf(tag) >= 0;
            }
            if (comes && block.indexOf("K" + tag) < 0) {
                tags += tag;
            }
        }
        return tags;
    }

    private String declaredTags(int i) {
        int from = text.indexOf("D" + declared.charAt(i)) + 2;
        return text.substring(from, Math.max(from, text.indexOf("{", from)));
    }

    private void expression(int depth) {
        term(depth);
        while (random.nextInt(3) == 0) {
            text.append(pick("+-*/<+-<"));
            term(depth);
        }
    }

    private void term(int depth) {
        int choice = random.nextInt(10);
        if (choice == 0 && (depth < 3 || random.nextInt(40) == 0)) {
            text.append('(');
            expression(depth + 1);
            text.append(')');
        } else if (choice < 6) {
            text.append(pick("abcd"));
        } else {
            text.append(random.nextInt(20) == 0 ? random.nextInt(1010) : random.nextInt(4));
        }
    }

    private char pick(String characters) {
        return characters.charAt(random.nextInt(characters.length()));
    }
}
