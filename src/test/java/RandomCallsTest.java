import java.util.Arrays;
import java.util.Random;

/** Compares objects with Model over runs of 512 random calls; the seed is fixed, so the calls are always the same. */
public final class RandomCallsTest {
    private static final int OBJECTS = 4000;
    private static final int CALLS = 512;
    private static final Checks CHECKS = new Checks();
    private static final int[] COMPILED = new int[6];
    private static final int[] OUTCOMES = new int[3];

    private final Random random = new Random(512);
    private final RandomTexts texts = new RandomTexts(random);
    private LeavingMachine machine;
    private StringBuilder text;
    // What is still to be typed.
    private String rest;
    // The program, or null; and whether there was a run of it.
    private Model program;
    private boolean ran;

    public static void main(String[] args) {
        new RandomCallsTest().compareAll();
        System.out.println("compiled: " + Arrays.toString(COMPILED) + ", outcomes: " + Arrays.toString(OUTCOMES));
        CHECKS.end();
    }

    private void compareAll() {
        for (int object = 0; object < OBJECTS; object++) {
            machine = new LeavingMachine();
            text = new StringBuilder();
            rest = texts.next();
            program = null;
            ran = false;
            for (int call = 1; call <= CALLS; call++) {
                CHECKS.sentence("object " + object + ", call " + call + " with the text " + text);
                next();
            }
        }
    }

    private void next() {
        switch (random.nextInt(16)) {
            case 0, 1, 2, 3, 4 -> typeOn();
            case 5 -> type(strangePart());
            case 6 -> wipeSometimes();
            case 7, 8 -> compileSometimes();
            case 9, 10 -> run(fuel());
            case 11 -> out(random.nextInt(4) == 0 ? strange() : random.nextInt(26) - 1);
            case 12 -> variable(random.nextInt(8) == 0 ? strange() : random.nextInt(10) - 1);
            case 13 -> raised(random.nextBoolean());
            case 14 -> raises(random.nextInt(8) == 0 ? strange() : random.nextInt(5) - 1);
            default -> look(random.nextInt(8) == 0 ? strange() : random.nextInt(10) - 1);
        }
    }

    /** Types what is to come next; when all was typed, it is compiled and another text begun. */
    private void typeOn() {
        if (rest.isEmpty()) {
            compile();
            if (random.nextInt(4) > 0) {
                wipe();
            }
            rest = texts.next();
            return;
        }
        int length = Math.min(rest.length(), random.nextInt(8) == 0 ? 1 + random.nextInt(8) : 8);
        type(Checks.part(rest.substring(0, length)));
        rest = rest.substring(length);
    }

    private long strangePart() {
        switch (random.nextInt(4)) {
            case 0: return 0;
            case 1: return random.nextLong();
            case 2: return Checks.part("!!!!!!!!") & random.nextLong() | 1L << random.nextInt(64);
            default: return (long) random.nextInt(256) << 8 * random.nextInt(8);
        }
    }

    private int strange() {
        int[] values = {Integer.MIN_VALUE, Integer.MAX_VALUE, -1, 3, 7, 8, 24, 160, 3000, 3001};
        return values[random.nextInt(values.length)];
    }

    private int fuel() {
        switch (random.nextInt(4)) {
            case 0: return strange();
            case 1: return 3000;
            default: return random.nextInt(40);
        }
    }

    private void type(long part) {
        StringBuilder more = new StringBuilder();
        boolean fits = true;
        for (int shift = 56; shift >= 0; shift -= 8) {
            char character = (char) (part >>> shift & 255);
            if (character != 0) {
                more.append(character);
                fits &= character > ' ' && character <= '~';
            }
        }
        fits &= text.length() + more.length() <= 160;
        CHECKS.due("type(" + part + ")", machine.type(part), fits);
        if (fits) {
            text.append(more);
        }
    }

    private void wipeSometimes() {
        if (random.nextInt(4) == 0) {
            wipe();
            rest = texts.next();
        }
    }

    private void wipe() {
        machine.wipe();
        text.setLength(0);
    }

    private void compileSometimes() {
        if (random.nextInt(6) == 0) {
            compile();
        }
    }

    private void compile() {
        Model read = new Model(text.toString());
        int wrong = read.check();
        CHECKS.due("compile()", machine.compile(), wrong);
        COMPILED[wrong]++;
        program = wrong == 0 ? read : null;
        ran = false;
    }

    private void run(int fuel) {
        if (fuel < 0 || fuel > 3000) {
            CHECKS.dueThrow("run(" + fuel + ")", IllegalArgumentException.class, () -> machine.run(fuel));
        } else if (program == null) {
            CHECKS.dueThrow("run(" + fuel + ")", IllegalStateException.class, () -> machine.run(fuel));
        } else {
            program.perform(fuel);
            ran = true;
            OUTCOMES[program.outcome]++;
            CHECKS.due("run(" + fuel + ")", machine.run(fuel), program.outcome);
        }
    }

    private void out(int i) {
        if (!ran || i < 0 || i >= program.outs.size()) {
            CHECKS.dueThrow("out(" + i + ")", IndexOutOfBoundsException.class, () -> machine.out(i));
        } else {
            CHECKS.due("out(" + i + ")", machine.out(i), program.outs.get(i));
        }
    }

    private void variable(int k) {
        if (k < 0 || k > 7) {
            CHECKS.dueThrow("variable(" + k + ")", IndexOutOfBoundsException.class, () -> machine.variable(k));
        } else {
            CHECKS.due("variable(" + k + ")", machine.variable(k), ran ? program.variables[k] : 0);
        }
    }

    private void raised(boolean value) {
        if (!ran || program.outcome != 2) {
            CHECKS.dueThrow("raised(" + value + ")", IllegalStateException.class, () -> machine.raised(value));
        } else {
            CHECKS.due("raised(" + value + ")", machine.raised(value), value ? program.value : program.tag);
        }
    }

    private void raises(int p) {
        if (program == null || p < 0 || p >= program.procedures.size()) {
            CHECKS.dueThrow("raises(" + p + ")", IllegalArgumentException.class, () -> machine.raises(p));
        } else {
            CHECKS.due("raises(" + p + ")", machine.raises(p), program.raisesBits(p));
        }
    }

    private void look(int which) {
        CHECKS.due("look(" + which + ")", machine.look(which), switch (which) {
            case 0 -> text.length();
            case 1 -> program == null ? 0 : 1;
            case 2 -> program == null ? 0 : program.procedures.size();
            case 3 -> program == null ? 0 : program.nodes.size();
            case 4 -> ran ? program.outcome : LeavingMachine.NONE;
            case 5 -> ran ? program.outs.size() : 0;
            case 6 -> ran ? program.given - program.fuel : 0;
            case 7 -> ran ? program.most : 0;
            default -> LeavingMachine.NONE;
        });
    }
}
