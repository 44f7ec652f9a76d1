import java.util.Random;

/** Makes texts of at most 160 characters, most of them programs, or nearly so. */
final class RandomTexts {
    private final Random random;
    private StringBuilder text;
    private String declared;

    RandomTexts(Random random) {
        this.random = random;
    }

    String next() {
        do {
            text = new StringBuilder();
            int procedures = random.nextInt(100) < 3 ? 4 : random.nextInt(3);
            declared = "";
            String names = random.nextInt(20) == 0 ? "ppqr" : "rpqr";
            for (int i = 0; i < procedures; i++) {
                procedure(names.charAt(i));
            }
            text.append('M');
            block(1, false, false, false);
        } while (text.length() > 160);
        return random.nextInt(8) == 0 ? spoiled() : text.toString();
    }

    private String spoiled() {
        String characters = "{}{};;=!?@BCRTXPYKFabcdefgh0123456789+-*/<()pqrDM";
        int place = random.nextInt(text.length());
        char character = characters.charAt(random.nextInt(characters.length()));
        switch (random.nextInt(3)) {
            case 0: text.setCharAt(place, character); break;
            case 1: text.deleteCharAt(place); break;
            default: text.insert(place, character); break;
        }
        return text.substring(0, Math.min(160, text.length()));
    }

    private void procedure(char name) {
        text.append('D').append(name);
        declared += name;
        for (char tag = '0'; tag <= '4'; tag++) {
            if (random.nextInt(3) > 0) {
                text.append(tag);
            }
        }
        block(1, true, false, false);
    }

    private void block(int depth, boolean mayRaise, boolean inLoop, boolean inCatch) {
        text.append('{');
        int statements = random.nextInt(4);
        for (int i = 0; i < statements && text.length() < 150; i++) {
            if (statement(depth, mayRaise, inLoop, inCatch) && random.nextInt(40) > 0) {
                break;
            }
        }
        text.append('}');
    }

    /** True if what it wrote always leaves its block. */
    private boolean statement(int depth, boolean mayRaise, boolean inLoop, boolean inCatch) {
        boolean mayNest = depth < 4 || random.nextInt(60) == 0;
        boolean sloppy = random.nextInt(40) == 0;
        switch (random.nextInt(14)) {
            case 0:
                return leave(inLoop || sloppy ? "B;" : "R;");
            case 1:
                return leave(inLoop || sloppy ? "C;" : "R;");
            case 2:
                return (inCatch && mayRaise || sloppy) && leave("X;");
            case 3:
            case 4:
                return (mayRaise || sloppy) && raise();
            case 5:
            case 6:
                if (mayNest) {
                    tries(depth, mayRaise, inLoop, inCatch);
                    return false;
                }
                break;
            case 7:
                if (mayNest) {
                    text.append('?');
                    expression(0);
                    block(depth + 1, mayRaise, inLoop, inCatch);
                    block(depth + 1, mayRaise, inLoop, inCatch);
                    return false;
                }
                break;
            case 8:
                if (mayNest) {
                    text.append('@');
                    expression(0);
                    block(depth + 1, mayRaise, true, inCatch);
                    return false;
                }
                break;
            case 9:
            case 10:
                if (mayRaise || sloppy) {
                    text.append('P').append(sloppy || declared.isEmpty() ? 'q' : pick(declared)).append(';');
                    return false;
                }
                break;
            default:
                break;
        }
        text.append(random.nextBoolean() ? "!" : pick("abcd") + "=");
        expression(0);
        text.append(';');
        return false;
    }

    private boolean leave(String how) {
        text.append(how);
        return true;
    }

    private boolean raise() {
        text.append('T').append(pick("01234"));
        expression(0);
        text.append(';');
        return true;
    }

    private void tries(int depth, boolean mayRaise, boolean inLoop, boolean inCatch) {
        text.append('Y');
        int from = text.length();
        block(depth + 1, true, inLoop, inCatch);
        String tags = tagsIn(text.substring(from));
        boolean catches = !tags.isEmpty() && tags.length() <= 3 && random.nextInt(6) > 0;
        for (int i = 0; catches && i < tags.length(); i++) {
            text.append('K').append(tags.charAt(i)).append(pick("abcd"));
            block(depth + 1, mayRaise, inLoop, true);
        }
        if (!catches || random.nextBoolean()) {
            text.append('F');
            block(depth + 1, mayRaise, inLoop, inCatch);
        }
    }

    /** A guess at what a block raises, right often enough for many texts to compile. */
    private String tagsIn(String block) {
        String tags = "";
        for (char tag = '0'; tag <= '4'; tag++) {
            boolean comes = block.indexOf("T" + tag) >= 0;
            for (int i = 0; i < declared.length(); i++) {
                comes |= block.indexOf("P" + declared.charAt(i)) >= 0 && declaredTags(i).indexOf(tag) >= 0;
            }
            if (comes && block.indexOf("K" + tag) < 0) {
                tags += tag;
            }
        }
        return tags;
    }

    private String declaredTags(int i) {
        int from = text.indexOf("D" + declared.charAt(i)) + 2;
        return text.substring(from, Math.max(from, text.indexOf("{", from)));
    }

    private void expression(int depth) {
        term(depth);
        while (random.nextInt(3) == 0) {
            text.append(pick("+-*/<+-<"));
            term(depth);
        }
    }

    private void term(int depth) {
        int choice = random.nextInt(10);
        if (choice == 0 && (depth < 3 || random.nextInt(40) == 0)) {
            text.append('(');
            expression(depth + 1);
            text.append(')');
        } else if (choice < 6) {
            text.append(pick("abcd"));
        } else {
            text.append(random.nextInt(20) == 0 ? random.nextInt(1010) : random.nextInt(4));
        }
    }

    private char pick(String characters) {
        return characters.charAt(random.nextInt(characters.length()));
    }
}
