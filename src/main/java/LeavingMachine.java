/**
 * A small language in which procedures raise what they declare, and blocks that come last are done
 * on every way out. The document DOC.md numbers what is promised.
 */
public final class LeavingMachine {
    public static final int NONE = -1;

    private static final int MOST_CHARACTERS = 160;
    private static final int FIRST_CHARACTER = 33;
    private static final int LAST_CHARACTER = 126;
    // Not a character of any text, so it stands for the text's end.
    private static final char END = 0;

    private static final int MOST_PROCEDURES = 3;
    private static final int MOST_CATCHES = 3;
    private static final int MOST_BLOCKS_DEEP = 4;
    private static final int MOST_BRACKETS_DEEP = 3;
    private static final int MOST_DIGITS = 3;
    private static final int VARIABLES = 8;
    private static final int TAGS = 5;

    // A statement and a block have two characters at least (B; and {}), a catch has five (K0a{}),
    // an entry of an expression has one: the rows below hold what any text can say.
    private static final int STATEMENT_ROW = MOST_CHARACTERS / 2;
    private static final int BLOCK_ROW = MOST_CHARACTERS / 2;
    private static final int CATCH_ROW = MOST_CHARACTERS / 5;
    private static final int ENTRY_ROW = MOST_CHARACTERS;
    // Each open bracket keeps one value waiting, and an operator needs two.
    private static final int VALUE_ROW = MOST_BRACKETS_DEEP + 2;

    private static final int RIGHT = 0;
    private static final int WRONG_GRAMMAR = 1;
    private static final int WRONG_PLACE = 2;
    private static final int WRONG_NAME = 3;
    private static final int WRONG_BEHIND = 4;
    private static final int WRONG_RAISE = 5;

    private static final int TRAP_DIVISION = 5;
    private static final int TRAP_CALL = 6;
    private static final int TRAP_OUT = 7;

    private static final int MOST_FUEL = 3000;
    private static final int MOST_UNDER_WAY = 8;
    private static final int MOST_VALUES_OUT = 24;

    private static final int ENDED = 0;
    private static final int FUEL_USED_UP = 1;
    private static final int RAISED = 2;

    private final Text text;
    private final Program program;
    private final Reader reader;
    private final Checker checker;
    private final Runner runner;

    public LeavingMachine() {
        text = new Text();
        program = new Program();
        reader = new Reader(text, program);
        checker = new Checker(program);
        runner = new Runner(program);
    }

    public boolean type(long part) {
        return text.add(part);
    }

    public void wipe() {
        text.length = 0;
    }

    public int compile() {
        runner.forget();
        int fault = reader.readProgram() ? checker.findFault() : WRONG_GRAMMAR;
        if (fault == RIGHT) {
            program.stands = true;
        } else {
            program.clear();
        }
        return fault;
    }

    public int run(int fuel) throws IllegalArgumentException, IllegalStateException {
        if (fuel < 0 || fuel > MOST_FUEL) {
            throw new IllegalArgumentException("fuel is 0 to 3000");
        }
        if (!program.stands) {
            throw new IllegalStateException("there is no program");
        }
        return runner.perform(fuel);
    }

    public int out(int i) throws IndexOutOfBoundsException {
        if (i < 0 || i >= runner.outCount) {
            throw new IndexOutOfBoundsException("no such value was put out");
        }
        return runner.outs[i];
    }

    public int variable(int k) throws IndexOutOfBoundsException {
        if (k < 0 || k >= VARIABLES) {
            throw new IndexOutOfBoundsException("variables are 0 to 7");
        }
        return runner.variables[k];
    }

    public int raised(boolean value) throws IllegalStateException {
        if (runner.outcome != RAISED) {
            throw new IllegalStateException("nothing left M");
        }
        return value ? runner.raisedValue : runner.raisedTag;
    }

    public int raises(int p) throws IllegalArgumentException {
        if (p < 0 || p >= program.procedureCount) {
            throw new IllegalArgumentException("there is no such procedure");
        }
        return program.procedures[p].raisedTags;
    }

    public int look(int which) {
        switch (which) {
            case 0: return text.length;
            case 1: return program.stands ? 1 : 0;
            case 2: return program.procedureCount;
            case 3: return program.statementCount;
            case 4: return runner.outcome;
            case 5: return runner.outCount;
            case 6: return runner.fuelGiven - runner.fuelLeft;
            case 7: return runner.mostUnderWay;
            default: return NONE;
        }
    }

    /** The characters that were typed. */
    private static final class Text {
        final char[] characters = new char[MOST_CHARACTERS];
        int length;

        boolean add(long part) {
            int more = countCharacters(part);
            if (more == NONE || length + more > MOST_CHARACTERS) {
                return false;
            }
            for (int shift = 56; shift >= 0; shift -= 8) {
                int character = byteAt(part, shift);
                if (character != 0) {
                    characters[length++] = (char) character;
                }
            }
            return true;
        }

        /** How many characters part has; NONE if one of them can't stand in a text. */
        private static int countCharacters(long part) {
            int count = 0;
            for (int shift = 56; shift >= 0; shift -= 8) {
                int character = byteAt(part, shift);
                if (character == 0) {
                    continue;
                }
                if (character < FIRST_CHARACTER || character > LAST_CHARACTER) {
                    return NONE;
                }
                count++;
            }
            return count;
        }

        private static int byteAt(long part, int shift) {
            return (int) (part >>> shift) & 255;
        }
    }

    /** A procedure, or M, which is checked as one whose TAGS stay empty. */
    private static final class Procedure {
        int name;
        int tags;
        int raisedTags;
        Block block;
    }

    /** Statements between { and }, and where they stand. */
    private static final class Block {
        int depth;
        boolean inLoop;
        // The tag of the innermost K block that this is or lies in, or NONE.
        int taken;
        Statement first;
        Statement last;
    }

    private static final class Statement {
        // The character it begins with, but '=' where that is a variable.
        char kind;
        // The variable of =, the tag of T, or the name of P.
        int operand;
        int expressionFrom;
        int expressionTo;
        Block home;
        Statement before;
        Statement next;
        // The first block of ?, @ and Y; for P the block of its procedure, null if there is none.
        Block body;
        // The second block of ?, or the F block of Y, null if there is none.
        Block other;
        Catch catches;
        // The TAGS of P's procedure.
        int declaredTags;

        Catch catchOf(int tag) {
            for (Catch each = catches; each != null; each = each.next) {
                if (each.tag == tag) {
                    return each;
                }
            }
            return null;
        }
    }

    private static final class Catch {
        int tag;
        int variable;
        Block block;
        Catch next;
    }

    /** All expressions of a program in one row, each with its operators behind their operands. */
    private static final class Expressions {
        static final char NUMBER = 'n';
        static final char VARIABLE = 'v';

        final char[] kinds = new char[ENTRY_ROW];
        final int[] operands = new int[ENTRY_ROW];
        int count;
        int value;
        private final int[] waiting = new int[VALUE_ROW];

        boolean add(char kind, int operand) {
            if (count == ENTRY_ROW) {
                return false;
            }
            kinds[count] = kind;
            operands[count] = operand;
            count++;
            return true;
        }

        /** Works out the statement's value; false if it divides by 0. */
        boolean evaluate(Statement statement, int[] variables) {
            int height = 0;
            for (int i = statement.expressionFrom; i < statement.expressionTo; i++) {
                char kind = kinds[i];
                if (kind == NUMBER || kind == VARIABLE) {
                    if (height < VALUE_ROW) {
                        waiting[height] = kind == VARIABLE ? variables[operands[i]] : operands[i];
                        height++;
                    }
                } else if (height >= 2) {
                    height--;
                    if (kind == '/' && waiting[height] == 0) {
                        return false;
                    }
                    waiting[height - 1] = combine(kind, waiting[height - 1], waiting[height]);
                }
            }
            value = waiting[0];
            return true;
        }

        /** A divisor of 0 is refused before this is asked. */
        private static int combine(char operator, int left, int right) {
            switch (operator) {
                case '+': return left + right;
                case '-': return left - right;
                case '*': return left * right;
                case '/': return left / right;
                default: return left < right ? 1 : 0;
            }
        }
    }

    /** What was read: rows that each reading uses again. */
    private static final class Program {
        final Procedure[] procedures = new Procedure[MOST_PROCEDURES];
        final Procedure main = new Procedure();
        final Statement[] statements = new Statement[STATEMENT_ROW];
        final Expressions expressions = new Expressions();
        int procedureCount;
        int statementCount;
        boolean stands;
        private final Block[] blocks = new Block[BLOCK_ROW];
        private final Catch[] catches = new Catch[CATCH_ROW];
        private int blockCount;
        private int catchCount;

        Program() {
            for (int i = 0; i < MOST_PROCEDURES; i++) {
                procedures[i] = new Procedure();
            }
            for (int i = 0; i < STATEMENT_ROW; i++) {
                statements[i] = new Statement();
            }
            for (int i = 0; i < BLOCK_ROW; i++) {
                blocks[i] = new Block();
            }
            for (int i = 0; i < CATCH_ROW; i++) {
                catches[i] = new Catch();
            }
        }

        void clear() {
            stands = false;
            procedureCount = 0;
            statementCount = 0;
            blockCount = 0;
            catchCount = 0;
            expressions.count = 0;
        }

        /** A new last procedure; null if there is no room for one. */
        Procedure addProcedure(int name) {
            if (procedureCount == MOST_PROCEDURES) {
                return null;
            }
            Procedure procedure = procedures[procedureCount++];
            procedure.name = name;
            return procedure;
        }

        /** A new empty block; null if there is no room for one. */
        Block addBlock(int depth, boolean inLoop, int taken) {
            if (blockCount == BLOCK_ROW) {
                return null;
            }
            Block block = blocks[blockCount++];
            block.depth = depth;
            block.inLoop = inLoop;
            block.taken = taken;
            block.first = null;
            block.last = null;
            return block;
        }

        /** A new last statement of home; null if there is no room for one. */
        Statement addStatement(Block home, char kind) {
            if (statementCount == STATEMENT_ROW) {
                return null;
            }
            Statement statement = statements[statementCount++];
            statement.kind = kind;
            statement.home = home;
            statement.before = home.last;
            statement.next = null;
            statement.body = null;
            statement.other = null;
            statement.catches = null;
            if (home.last == null) {
                home.first = statement;
            } else {
                home.last.next = statement;
            }
            home.last = statement;
            return statement;
        }

        /** A new catch of the statement; null if there is no room for one. */
        Catch addCatch(Statement statement, int tag, int variable) {
            if (catchCount == CATCH_ROW) {
                return null;
            }
            Catch added = catches[catchCount++];
            added.tag = tag;
            added.variable = variable;
            added.next = statement.catches;
            statement.catches = added;
            return added;
        }

        /** The first procedure of that name; null if there is none. */
        Procedure procedureNamed(int name) {
            for (int i = 0; i < procedureCount; i++) {
                if (procedures[i].name == name) {
                    return procedures[i];
                }
            }
            return null;
        }
    }

    /** Reads the text by the grammar; what reads answers false, or null, where the text is not in it. */
    private static final class Reader {
        private static final String OPERATORS = "+-*/<";

        private final Text text;
        private final Program program;
        private int at;

        Reader(Text text, Program program) {
            this.text = text;
            this.program = program;
        }

        boolean readProgram() {
            at = 0;
            program.clear();
            for (int n = 0; n < MOST_PROCEDURES && take('D'); n++) {
                if (!readProcedure()) {
                    return false;
                }
            }
            return take('M') && readBody(program.main) && at == text.length;
        }

        private boolean readProcedure() {
            int name = takeBetween('p', 'r');
            Procedure procedure = name == NONE ? null : program.addProcedure(name);
            if (procedure == null) {
                return false;
            }
            procedure.tags = readTags();
            return readBody(procedure);
        }

        /** Each tag is looked for once, in its order, so a tag that does not rise is left over. */
        private int readTags() {
            int tags = 0;
            for (int tag = 0; tag < TAGS; tag++) {
                if (take((char) ('0' + tag))) {
                    tags |= 1 << tag;
                }
            }
            return tags;
        }

        private boolean readBody(Procedure procedure) {
            procedure.block = readBlock(1, false, NONE);
            return procedure.block != null;
        }

        private Block readBlock(int depth, boolean inLoop, int taken) {
            if (depth > MOST_BLOCKS_DEEP || !take('{')) {
                return null;
            }
            Block block = program.addBlock(depth, inLoop, taken);
            if (block == null) {
                return null;
            }
            for (int n = 0; n <= STATEMENT_ROW; n++) {
                if (take('}')) {
                    return block;
                }
                if (!readStatement(block)) {
                    return null;
                }
            }
            return null;
        }

        private Block readBlockIn(Block home) {
            return readBlock(home.depth + 1, home.inLoop, home.taken);
        }

        private boolean readStatement(Block home) {
            Statement statement = program.addStatement(home, here());
            if (statement == null) {
                return false;
            }
            statement.operand = takeBetween('a', 'h');
            if (statement.operand != NONE) {
                statement.kind = '=';
                return take('=') && readExpression(statement) && take(';');
            }
            at++;
            switch (statement.kind) {
                case '!':
                    return readExpression(statement) && take(';');
                case '?':
                    return readChoice(statement, home);
                case '@':
                    return readLoop(statement, home);
                case 'B':
                case 'C':
                case 'R':
                case 'X':
                    return take(';');
                case 'T':
                    statement.operand = takeBetween('0', '4');
                    return statement.operand != NONE && readExpression(statement) && take(';');
                case 'P':
                    statement.operand = takeBetween('p', 'r');
                    return statement.operand != NONE && take(';');
                case 'Y':
                    return readTry(statement, home);
                default:
                    return false;
            }
        }

        private boolean readChoice(Statement statement, Block home) {
            if (!readExpression(statement)) {
                return false;
            }
            statement.body = readBlockIn(home);
            if (statement.body == null) {
                return false;
            }
            statement.other = readBlockIn(home);
            return statement.other != null;
        }

        private boolean readLoop(Statement statement, Block home) {
            if (!readExpression(statement)) {
                return false;
            }
            statement.body = readBlock(home.depth + 1, true, home.taken);
            return statement.body != null;
        }

        private boolean readTry(Statement statement, Block home) {
            statement.body = readBlockIn(home);
            if (statement.body == null) {
                return false;
            }
            for (int n = 0; n < MOST_CATCHES && take('K'); n++) {
                if (!readCatch(statement, home)) {
                    return false;
                }
            }
            if (!take('F')) {
                return statement.catches != null;
            }
            statement.other = readBlockIn(home);
            return statement.other != null;
        }

        private boolean readCatch(Statement statement, Block home) {
            int tag = takeBetween('0', '4');
            int variable = takeBetween('a', 'h');
            if (tag == NONE || variable == NONE || statement.catchOf(tag) != null) {
                return false;
            }
            Catch added = program.addCatch(statement, tag, variable);
            if (added == null) {
                return false;
            }
            added.block = readBlock(home.depth + 1, home.inLoop, tag);
            return added.block != null;
        }

        private boolean readExpression(Statement statement) {
            statement.expressionFrom = program.expressions.count;
            boolean read = readTerms(0);
            statement.expressionTo = program.expressions.count;
            return read;
        }

        private boolean readTerms(int brackets) {
            if (brackets > MOST_BRACKETS_DEEP || !readTerm(brackets)) {
                return false;
            }
            for (int n = 0; n < MOST_CHARACTERS && OPERATORS.indexOf(here()) >= 0; n++) {
                char operator = here();
                at++;
                if (!readTerm(brackets) || !program.expressions.add(operator, 0)) {
                    return false;
                }
            }
            return true;
        }

        private boolean readTerm(int brackets) {
            if (take('(')) {
                return readTerms(brackets + 1) && take(')');
            }
            int variable = takeBetween('a', 'h');
            if (variable != NONE) {
                return program.expressions.add(Expressions.VARIABLE, variable);
            }
            return readNumber();
        }

        private boolean readNumber() {
            int number = 0;
            int digits = 0;
            for (int digit = takeBetween('0', '9'); digit != NONE && digits <= MOST_DIGITS; digits++) {
                number = number * 10 + digit;
                digit = takeBetween('0', '9');
            }
            return digits >= 1 && digits <= MOST_DIGITS
                && program.expressions.add(Expressions.NUMBER, number);
        }

        private char here() {
            return at < text.length ? text.characters[at] : END;
        }

        private boolean take(char wanted) {
            if (at >= text.length || text.characters[at] != wanted) {
                return false;
            }
            at++;
            return true;
        }

        /** Takes a character from low to high and tells how far it lies behind low; else NONE. */
        private int takeBetween(char low, char high) {
            if (at >= text.length || text.characters[at] < low || text.characters[at] > high) {
                return NONE;
            }
            return text.characters[at++] - low;
        }
    }

    /** Finds in which way a program that is in the grammar is WRONG. */
    private static final class Checker {
        private final Program program;
        private boolean catchesInVain;

        Checker(Program program) {
            this.program = program;
        }

        int findFault() {
            linkCalls();
            // The row has the statements in the order in which they begin in the text.
            for (int i = 0; i < program.statementCount; i++) {
                int fault = faultOf(program.statements[i]);
                if (fault != RIGHT) {
                    return fault;
                }
            }
            if (hasNameTwice()) {
                return WRONG_NAME;
            }
            return raisesAsDeclared() ? RIGHT : WRONG_RAISE;
        }

        private void linkCalls() {
            for (int i = 0; i < program.statementCount; i++) {
                Statement statement = program.statements[i];
                if (statement.kind == 'P') {
                    Procedure procedure = program.procedureNamed(statement.operand);
                    statement.body = procedure == null ? null : procedure.block;
                    statement.declaredTags = procedure == null ? 0 : procedure.tags;
                }
            }
        }

        private static int faultOf(Statement statement) {
            if (isOutOfPlace(statement)) {
                return WRONG_PLACE;
            }
            if (statement.kind == 'P' && statement.body == null) {
                return WRONG_NAME;
            }
            return statement.before != null && alwaysLeaves(statement.before) ? WRONG_BEHIND : RIGHT;
        }

        private static boolean isOutOfPlace(Statement statement) {
            switch (statement.kind) {
                case 'B':
                case 'C':
                    return !statement.home.inLoop;
                case 'X':
                    return statement.home.taken == NONE;
                default:
                    return false;
            }
        }

        private static boolean alwaysLeaves(Statement statement) {
            switch (statement.kind) {
                case 'B':
                case 'C':
                case 'R':
                case 'T':
                case 'X':
                    return true;
                default:
                    return false;
            }
        }

        private boolean hasNameTwice() {
            for (int i = 0; i < program.procedureCount; i++) {
                Procedure procedure = program.procedures[i];
                if (program.procedureNamed(procedure.name) != procedure) {
                    return true;
                }
            }
            return false;
        }

        private boolean raisesAsDeclared() {
            catchesInVain = false;
            boolean declared = keepsToItsTags(program.main);
            for (int i = 0; i < program.procedureCount; i++) {
                if (!keepsToItsTags(program.procedures[i])) {
                    declared = false;
                }
            }
            return declared && !catchesInVain;
        }

        private boolean keepsToItsTags(Procedure procedure) {
            procedure.raisedTags = tagsOfBlock(procedure.block);
            return (procedure.raisedTags & ~procedure.tags) == 0;
        }

        private int tagsOfBlock(Block block) {
            int tags = 0;
            if (block != null) {
                for (Statement each = block.first; each != null; each = each.next) {
                    tags |= tagsOfStatement(each);
                }
            }
            return tags;
        }

        private int tagsOfStatement(Statement statement) {
            switch (statement.kind) {
                case 'T':
                    return 1 << statement.operand;
                case 'X':
                    return 1 << statement.home.taken;
                case 'P':
                    return statement.declaredTags;
                case '?':
                case '@':
                    return tagsOfBlock(statement.body) | tagsOfBlock(statement.other);
                case 'Y':
                    return tagsOfTry(statement);
                default:
                    return 0;
            }
        }

        private int tagsOfTry(Statement statement) {
            int tried = tagsOfBlock(statement.body);
            int caught = 0;
            int passedOn = tagsOfBlock(statement.other);
            for (Catch each = statement.catches; each != null; each = each.next) {
                caught |= 1 << each.tag;
                passedOn |= tagsOfBlock(each.block);
            }
            if ((caught & ~tried) != 0) {
                catchesInVain = true;
            }
            return (tried & ~caught) | passedOn;
        }
    }

    /** How a statement or a block is left. */
    private enum Way { AT_ITS_END, BREAK, CONTINUE, RETURN, RAISE, FUEL_GONE }

    /** Runs the program and keeps what the latest run left behind. */
    private static final class Runner {
        final int[] variables = new int[VARIABLES];
        final int[] outs = new int[MOST_VALUES_OUT];
        int outCount;
        int outcome = NONE;
        int fuelGiven;
        int fuelLeft;
        int mostUnderWay;
        int raisedTag;
        int raisedValue;
        private final Program program;
        private int underWay;

        Runner(Program program) {
            this.program = program;
        }

        void forget() {
            for (int i = 0; i < VARIABLES; i++) {
                variables[i] = 0;
            }
            outCount = 0;
            outcome = NONE;
            fuelGiven = 0;
            fuelLeft = 0;
            underWay = 0;
            mostUnderWay = 0;
        }

        int perform(int fuel) {
            forget();
            fuelGiven = fuel;
            fuelLeft = fuel;
            Way way = doBlock(program.main.block, 0);
            if (way == Way.FUEL_GONE) {
                outcome = FUEL_USED_UP;
            } else {
                outcome = way == Way.RAISE ? RAISED : ENDED;
            }
            return outcome;
        }

        /** Does a block, if there is one; taken is the value that the innermost K block around it took. */
        private Way doBlock(Block block, int taken) {
            Way way = Way.AT_ITS_END;
            if (block != null) {
                for (Statement each = block.first; each != null && way == Way.AT_ITS_END; each = each.next) {
                    way = doStatement(each, taken);
                }
            }
            return way;
        }

        private Way doStatement(Statement statement, int taken) {
            if (fuelLeft == 0) {
                return Way.FUEL_GONE;
            }
            fuelLeft--;
            switch (statement.kind) {
                case '=': return assign(statement);
                case '!': return putOut(statement);
                case '?': return choose(statement, taken);
                case '@': return repeat(statement, taken);
                case 'B': return Way.BREAK;
                case 'C': return Way.CONTINUE;
                case 'R': return Way.RETURN;
                case 'T': return raiseNew(statement);
                case 'X': return raise(statement.home.taken, taken);
                case 'P': return call(statement);
                default: return tryOut(statement, taken);
            }
        }

        private Way assign(Statement statement) {
            if (!program.expressions.evaluate(statement, variables)) {
                return raise(TRAP_DIVISION, 0);
            }
            variables[statement.operand] = program.expressions.value;
            return Way.AT_ITS_END;
        }

        private Way putOut(Statement statement) {
            if (!program.expressions.evaluate(statement, variables)) {
                return raise(TRAP_DIVISION, 0);
            }
            if (outCount == MOST_VALUES_OUT) {
                return raise(TRAP_OUT, 0);
            }
            outs[outCount++] = program.expressions.value;
            return Way.AT_ITS_END;
        }

        private Way choose(Statement statement, int taken) {
            if (!program.expressions.evaluate(statement, variables)) {
                return raise(TRAP_DIVISION, 0);
            }
            return doBlock(program.expressions.value != 0 ? statement.body : statement.other, taken);
        }

        private Way repeat(Statement statement, int taken) {
            while (fuelLeft > 0) {
                fuelLeft--;
                if (!program.expressions.evaluate(statement, variables)) {
                    return raise(TRAP_DIVISION, 0);
                }
                if (program.expressions.value == 0) {
                    return Way.AT_ITS_END;
                }
                Way way = doBlock(statement.body, taken);
                if (way == Way.BREAK) {
                    return Way.AT_ITS_END;
                }
                if (way != Way.AT_ITS_END && way != Way.CONTINUE) {
                    return way;
                }
            }
            return Way.FUEL_GONE;
        }

        private Way raiseNew(Statement statement) {
            if (!program.expressions.evaluate(statement, variables)) {
                return raise(TRAP_DIVISION, 0);
            }
            return raise(statement.operand, program.expressions.value);
        }

        private Way raise(int tag, int value) {
            raisedTag = tag;
            raisedValue = value;
            return Way.RAISE;
        }

        private Way call(Statement statement) {
            if (underWay == MOST_UNDER_WAY) {
                return raise(TRAP_CALL, 0);
            }
            underWay++;
            mostUnderWay = Math.max(mostUnderWay, underWay);
            Way way = doBlock(statement.body, 0);
            underWay--;
            return way == Way.RETURN ? Way.AT_ITS_END : way;
        }

        private Way tryOut(Statement statement, int taken) {
            Way way = doBlock(statement.body, taken);
            Catch taker = way == Way.RAISE ? statement.catchOf(raisedTag) : null;
            if (taker != null) {
                variables[taker.variable] = raisedValue;
                way = doBlock(taker.block, raisedValue);
            }
            return way == Way.FUEL_GONE ? way : doLast(statement.other, way, taken);
        }

        private Way doLast(Block last, Way way, int taken) {
            // The F block may raise and take things of its own, and what was raised before it still goes on.
            int tag = raisedTag;
            int value = raisedValue;
            Way ownWay = doBlock(last, taken);
            if (ownWay != Way.AT_ITS_END) {
                return ownWay;
            }
            raisedTag = tag;
            raisedValue = value;
            return way;
        }
    }
}
