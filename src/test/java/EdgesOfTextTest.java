/** The edges of THE TEXT and of the promises 1 to 3, sentence by sentence. */
public final class EdgesOfTextTest {
    private static final Checks CHECKS = new Checks();
    private static final long EIGHT = Checks.part("!!!!!!!!");

    public static void main(String[] args) {
        noTextNoProgram();
        atMost160Characters();
        characters33To126();
        highestFirst();
        zeroBytesArePassedOver();
        falseForAnotherByte();
        falseForMoreThan160();
        wipedTextIsEmpty();
        CHECKS.end();
    }

    private static void noTextNoProgram() {
        CHECKS.sentence("No text, no program.");
        LeavingMachine machine = new LeavingMachine();
        CHECKS.due("all of a new object", Checks.seen(machine), "looks -1 0 0 0 0 -1 0 0 0 -1, variables 0 0 0 0 0 0 0 0,"
            + " outs IndexOutOfBoundsException, raised IllegalStateException IllegalStateException,"
            + " raises" + " IllegalArgumentException".repeat(4));
        CHECKS.dueThrow("run(0)", IllegalStateException.class, () -> machine.run(0));
        CHECKS.dueThrow("run(3000)", IllegalStateException.class, () -> machine.run(3000));
        CHECKS.dueThrow("raises(0)", IllegalArgumentException.class, () -> machine.raises(0));
        CHECKS.due("compile of no text", machine.compile(), 1);
        machine.wipe();
        CHECKS.due("look(0) of a new text that was wiped", machine.look(0), 0);
    }

    private static void atMost160Characters() {
        CHECKS.sentence("THE TEXT has at most 160 characters 33 .. 126.");
        LeavingMachine machine = new LeavingMachine();
        for (int n = 1; n <= 20; n++) {
            CHECKS.due("type of eight more", machine.type(EIGHT), true);
            CHECKS.due("look(0)", machine.look(0), 8 * n);
        }
        CHECKS.due("type of eight at 160", machine.type(EIGHT), false);
        CHECKS.due("type of one at 160", machine.type('!'), false);
        CHECKS.due("look(0) of a full text", machine.look(0), 160);
        LeavingMachine slow = new LeavingMachine();
        for (int n = 1; n <= 160; n++) {
            CHECKS.due("type of character " + n, slow.type('~'), true);
        }
        CHECKS.due("type of character 161", slow.type('~'), false);
        CHECKS.due("look(0) of 160 characters", slow.look(0), 160);
        CHECKS.dueRun("M{" + "a=a+1;".repeat(26) + "}", 26, 0);
        LeavingMachine full = CHECKS.dueRun("M{" + "a=a+1;".repeat(25) + "!a+10;}", 26, 0, 35);
        CHECKS.due("look(0) of a program", full.look(0), 159);
        CHECKS.due("look(0) of a program", CHECKS.dueRun("M{" + "!a+a+12;".repeat(18) + "a=1;b=1;c=12;}", 21, 0,
            12, 12, 12, 12, 12, 12, 12, 12, 12, 12, 12, 12, 12, 12, 12, 12, 12, 12).look(0), 160);
    }

    private static void characters33To126() {
        CHECKS.sentence("THE TEXT has at most 160 characters 33 .. 126.");
        for (int character = 33; character <= 126; character++) {
            LeavingMachine machine = new LeavingMachine();
            CHECKS.due("type of " + character, machine.type(character), true);
            CHECKS.due("look(0) after " + character, machine.look(0), 1);
        }
        dueRefused(32, 127, 31, 1, 128, 255);
    }

    private static void highestFirst() {
        CHECKS.sentence("Adds the characters that are the eight bytes of part, the highest first");
        LeavingMachine machine = new LeavingMachine();
        CHECKS.due("type of M{!1-23;", machine.type(0x4D7B21312D32333BL), true);
        CHECKS.due("type of } in the lowest byte", machine.type(0x7DL), true);
        CHECKS.due("compile", machine.compile(), 0);
        CHECKS.due("run", machine.run(1), 0);
        CHECKS.due("out(0)", machine.out(0), -22);
        // All eight bytes differ, so each order but the right one would be another text or wrong.
        machine.wipe();
        CHECKS.due("type of M{a=b+2;", machine.type(0x4D7B613D622B323BL), true);
        CHECKS.due("type of } in the highest byte", machine.type(0x7DL << 56), true);
        CHECKS.due("compile", machine.compile(), 0);
        CHECKS.due("run", machine.run(1), 0);
        CHECKS.due("variable(0)", machine.variable(0), 2);
    }

    private static void zeroBytesArePassedOver() {
        CHECKS.sentence("(bytes that are 0 are passed over)");
        LeavingMachine machine = new LeavingMachine();
        CHECKS.due("type(0)", machine.type(0), true);
        CHECKS.due("look(0) after type(0)", machine.look(0), 0);
        for (int places = 0; places < 256; places++) {
            LeavingMachine fresh = new LeavingMachine();
            CHECKS.due("type with bytes at " + places, fresh.type(EIGHT & mask(places)), true);
            CHECKS.due("look(0) with bytes at " + places, fresh.look(0), Integer.bitCount(places));
        }
        CHECKS.due("type of 0M0{0}00", machine.type(0x004D007B007D0000L), true);
        CHECKS.due("look(0)", machine.look(0), 3);
        CHECKS.due("compile", machine.compile(), 0);
        LeavingMachine full = CHECKS.typed("!".repeat(160));
        CHECKS.due("type(0) of a full text", full.type(0), true);
        CHECKS.due("look(0) of a full text", full.look(0), 160);
    }

    /** The bytes of a long whose bits in places are set. */
    private static long mask(int places) {
        long mask = 0;
        for (int i = 0; i < 8; i++) {
            mask |= (places >> i & 1) == 0 ? 0 : 255L << 8 * i;
        }
        return mask;
    }

    private static void falseForAnotherByte() {
        CHECKS.sentence("false if another byte is not 33 .. 126");
        dueRefused(1, 32, 127, 128, 160, 161, 254, 255);
        CHECKS.due("type(-1)", CHECKS.typed("M{}").type(-1), false);
        CHECKS.due("type(MIN_VALUE)", CHECKS.typed("M{}").type(Long.MIN_VALUE), false);
        CHECKS.due("type(MAX_VALUE)", CHECKS.typed("M{}").type(Long.MAX_VALUE), false);
    }

    /** Each byte is refused at each place, alone and among seven characters, and adds none of them. */
    private static void dueRefused(int... bytes) {
        for (int wrong : bytes) {
            for (int shift = 0; shift < 64; shift += 8) {
                LeavingMachine machine = CHECKS.typed("M{}");
                long among = EIGHT & ~(255L << shift) | (long) wrong << shift;
                String what = "type of byte " + wrong + " at bit " + shift;
                CHECKS.due(what + " alone", machine.type((long) wrong << shift), false);
                CHECKS.due(what + " among others", machine.type(among), false);
                CHECKS.due("look(0) after " + what, machine.look(0), 3);
                CHECKS.due("compile after " + what, machine.compile(), 0);
            }
        }
    }

    private static void falseForMoreThan160() {
        CHECKS.sentence("false if another byte is not 33 .. 126, or there would be more than 160.");
        for (int length = 152; length <= 160; length++) {
            for (int more = 0; more <= 8; more++) {
                LeavingMachine machine = CHECKS.typed("!".repeat(length));
                boolean fits = length + more <= 160;
                String what = "type of " + more + " at " + length;
                CHECKS.due(what, machine.type(Checks.part("!".repeat(more))), fits);
                CHECKS.due("look(0) after " + what, machine.look(0), fits ? length + more : length);
            }
        }
        String most = "M{" + "a=1;".repeat(39);
        LeavingMachine machine = CHECKS.typed(most);
        CHECKS.due("type of }!!, which would be 161", machine.type(Checks.part("}!!")), false);
        CHECKS.due("type of }", machine.type('}'), true);
        CHECKS.due("compile of what was there, and }", machine.compile(), 0);
    }

    private static void wipedTextIsEmpty() {
        CHECKS.sentence("The text becomes empty.");
        LeavingMachine machine = CHECKS.typed("M{!1;}");
        machine.wipe();
        CHECKS.due("look(0)", machine.look(0), 0);
        CHECKS.due("compile of a wiped text", machine.compile(), 1);
        machine.wipe();
        CHECKS.due("look(0) of what was wiped twice", machine.look(0), 0);
        CHECKS.retype(machine, "~".repeat(160));
        machine.wipe();
        CHECKS.due("look(0) of a full text that was wiped", machine.look(0), 0);
        CHECKS.retype(machine, "M{" + "b=2;".repeat(39) + "}");
        CHECKS.due("look(0) of what was typed anew", machine.look(0), 159);
        CHECKS.due("compile of what was typed anew", machine.compile(), 0);
        machine.wipe();
        CHECKS.retype(machine, "M{}");
        CHECKS.due("compile of a short text behind a long one", machine.compile(), 0);
        CHECKS.due("look(3) of it", machine.look(3), 0);
        wipeLeavesAllElse();
    }

    private static void wipeLeavesAllElse() {
        for (String text : new String[] {"Dp0{T01;}M{!4;b=2;Y{Pp;}K0a{}!a/c;}", "M{@1{!a;a=a+1;}}", "M{c=3;}"}) {
            LeavingMachine machine = CHECKS.compiled(text);
            machine.run(60);
            String before = Checks.seen(machine).replaceFirst(" " + text.length() + " ", " 0 ");
            machine.wipe();
            CHECKS.due("all but the text of " + text, Checks.seen(machine), before);
        }
    }
}
