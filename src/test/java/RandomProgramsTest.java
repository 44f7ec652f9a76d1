import java.util.Random;

/** Compares the class with Model on random texts; the seed is fixed, so the texts are always the same. */
public final class RandomProgramsTest {
    private static final int TEXTS = 120_000;
    private static final int CALLS = 512;
    private static final Checks CHECKS = new Checks();
    private static final int[] COMPILED = new int[6];
    private static final int[] OUTCOMES = new int[3];
    private static final int[] TRAPS = new int[8];

    private final Random random = new Random(20261115);
    private final RandomTexts texts = new RandomTexts(random);

    public static void main(String[] args) {
        new RandomProgramsTest().compareAll();
        dueAllSeen("compile", COMPILED);
        dueAllSeen("run", OUTCOMES);
        for (int trap = 5; trap <= 7; trap++) {
            CHECKS.due("some random program ends by trap " + trap, TRAPS[trap] > 0, true);
        }
        System.out.println("compiled: " + java.util.Arrays.toString(COMPILED) + ", outcomes: "
            + java.util.Arrays.toString(OUTCOMES) + ", raised: " + java.util.Arrays.toString(TRAPS));
        CHECKS.end();
    }

    private static void dueAllSeen(String call, int[] counts) {
        for (int answer = 0; answer < counts.length; answer++) {
            CHECKS.due("some random text answers " + answer + " to " + call, counts[answer] > 0, true);
        }
    }

    private void compareAll() {
        LeavingMachine machine = new LeavingMachine();
        int calls = 0;
        for (int n = 0; n < TEXTS; n++) {
            String program = texts.next();
            // Rows are used again, so one object takes as many texts as its calls allow.
            if (calls > CALLS - 150) {
                machine = new LeavingMachine();
                calls = 0;
            }
            calls += 150;
            CHECKS.retype(machine, program);
            compare(machine, program);
        }
    }

    private void compare(LeavingMachine machine, String program) {
        Model model = new Model(program);
        int wrong = model.check();
        CHECKS.due("compile of " + program, machine.compile(), wrong);
        COMPILED[wrong]++;
        CHECKS.due("look(1) of " + program, machine.look(1), wrong == 0 ? 1 : 0);
        CHECKS.due("look(2) of " + program, machine.look(2), wrong == 0 ? model.procedures.size() : 0);
        CHECKS.due("look(3) of " + program, machine.look(3), wrong == 0 ? model.nodes.size() : 0);
        if (wrong != 0 || machine.look(1) == 0) {
            return;
        }
        for (int p = 0; p < model.procedures.size(); p++) {
            CHECKS.due("raises(" + p + ") of " + program, machine.raises(p), model.raisesBits(p));
        }
        compareRun(machine, model, program, 3000);
        compareRun(machine, model, program, random.nextInt(60));
    }

    private void compareRun(LeavingMachine machine, Model model, String program, int fuel) {
        model.perform(fuel);
        String what = " of " + program + " with fuel " + fuel;
        CHECKS.due("run" + what, machine.run(fuel), model.outcome);
        OUTCOMES[model.outcome]++;
        CHECKS.due("look(4)" + what, machine.look(4), model.outcome);
        CHECKS.due("look(5)" + what, machine.look(5), model.outs.size());
        CHECKS.due("look(6)" + what, machine.look(6), fuel - model.fuel);
        CHECKS.due("look(7)" + what, machine.look(7), model.most);
        for (int i = 0; i < Math.min(model.outs.size(), machine.look(5)); i++) {
            CHECKS.due("out(" + i + ")" + what, machine.out(i), model.outs.get(i));
        }
        for (int k = 0; k < 8; k++) {
            CHECKS.due("variable(" + k + ")" + what, machine.variable(k), model.variables[k]);
        }
        if (model.outcome == 2 && machine.look(4) == 2) {
            TRAPS[model.tag]++;
            CHECKS.due("raised(false)" + what, machine.raised(false), model.tag);
            CHECKS.due("raised(true)" + what, machine.raised(true), model.value);
        }
    }
}
