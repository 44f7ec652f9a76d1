/** What the tests share: it counts the calls whose answer is not the one that is due. */
final class Checks {
    interface Call {
        long answer();
    }

    private int wrong;
    private String sentence = "";

    /** The words of the document that the next answers are checked against. */
    void sentence(String words) {
        sentence = "\"" + words + "\": ";
    }

    void due(String what, long got, long want) {
        if (got != want) {
            tell(what + " answered " + got + ", due is " + want);
        }
    }

    void due(String what, String got, String want) {
        if (!got.equals(want)) {
            tell(what + " is\n    " + got + ", due is\n    " + want);
        }
    }

    private void tell(String fault) {
        wrong++;
        System.out.println(sentence + fault);
    }

    void due(String what, boolean got, boolean want) {
        due(what, got ? 1 : 0, want ? 1 : 0);
    }

    void dueThrow(String what, Class<? extends RuntimeException> want, Call call) {
        try {
            long got = call.answer();
            tell(what + " answered " + got + ", due is " + want.getSimpleName());
        } catch (RuntimeException e) {
            if (e.getClass() != want) {
                tell(what + " threw " + e + ", due is " + want.getSimpleName());
            }
        }
    }

    /** The text is compiled by a new object. */
    void dueCompile(String text, int want) {
        due("compile of " + text, typed(text).compile(), want);
    }

    /** Each text is compiled by a new object. */
    void dueCompiles(int want, String... texts) {
        for (String text : texts) {
            dueCompile(text, want);
        }
    }

    /** The text is compiled and run by a new object, and then answers for all that the run put out. */
    LeavingMachine dueRun(String text, int fuel, int want, int... outs) {
        LeavingMachine machine = compiled(text);
        due("run(" + fuel + ") of " + text, machine.run(fuel), want);
        due("look(5) after " + text, machine.look(5), outs.length);
        for (int i = 0; i < outs.length && i < machine.look(5); i++) {
            due("out(" + i + ") after " + text, machine.out(i), outs[i]);
        }
        return machine;
    }

    /** As dueRun, for a run that a TRAP ends. */
    LeavingMachine dueTrap(String text, int trap, int... outs) {
        LeavingMachine machine = dueRun(text, 3000, 2, outs);
        if (machine.look(4) == 2) {
            due("raised(false) after " + text, machine.raised(false), trap);
            due("raised(true) after " + text, machine.raised(true), 0);
        }
        return machine;
    }

    LeavingMachine compiled(String text) {
        LeavingMachine machine = typed(text);
        due("compile of " + text, machine.compile(), 0);
        return machine;
    }

    LeavingMachine typed(String text) {
        LeavingMachine machine = new LeavingMachine();
        typeInto(machine, text);
        return machine;
    }

    void retype(LeavingMachine machine, String text) {
        machine.wipe();
        typeInto(machine, text);
    }

    private void typeInto(LeavingMachine machine, String text) {
        for (int from = 0; from < text.length(); from += 8) {
            String piece = text.substring(from, Math.min(from + 8, text.length()));
            due("type of " + piece, machine.type(part(piece)), true);
        }
    }

    /** All that can be seen of an object, by some fifty calls that change nothing. */
    static String seen(LeavingMachine machine) {
        StringBuilder seen = new StringBuilder("looks");
        for (int which = -1; which <= 8; which++) {
            seen.append(' ').append(machine.look(which));
        }
        seen.append(", variables");
        for (int k = 0; k < 8; k++) {
            seen.append(' ').append(machine.variable(k));
        }
        seen.append(", outs");
        for (int i = 0; i <= machine.look(5); i++) {
            int place = i;
            seen.append(' ').append(answer(() -> machine.out(place)));
        }
        seen.append(", raised ").append(answer(() -> machine.raised(false)));
        seen.append(' ').append(answer(() -> machine.raised(true))).append(", raises");
        for (int p = 0; p < 4; p++) {
            int place = p;
            seen.append(' ').append(answer(() -> machine.raises(place)));
        }
        return seen.toString();
    }

    /** What a call answers, or the name of what it throws. */
    static String answer(Call call) {
        try {
            return Long.toString(call.answer());
        } catch (RuntimeException e) {
            return e.getClass().getSimpleName();
        }
    }

    /** Up to eight characters as the bytes of a long, the first one highest. */
    static long part(String characters) {
        long part = 0;
        for (int i = 0; i < characters.length(); i++) {
            part = part << 8 | characters.charAt(i);
        }
        return part;
    }

    void end() {
        System.out.println(wrong == 0 ? "all answers are as due" : wrong + " answers are not as due");
        if (wrong != 0) {
            System.exit(1);
        }
    }
}
