import java.util.Arrays;

/** Judges small programs whose names may lead to nothing; ../shared/DOC.md says what each call answers. */
public final class NothingJudge {
    public static final int NONE = -1;

    private static final int NOT_TAKEN = -2;
    private static final int MOST_BYTES = 1200;
    private static final int FED_BYTES = 20;
    private static final int LETTERS = 8;
    private static final int MOST_PARAMETERS = 4;
    private static final int NAMES = 26;
    private static final int MOST_USES = 40;
    private static final int MOST_TESTS = 24;
    private static final int MOST_OPEN = 6;
    private static final int ALL_CHOICES = 256;
    private static final int CHOICE_BITS = 8;

    // Whatever becomes an instruction takes four bytes of the text at least.
    private static final int MOST_CODE = MOST_BYTES / 4 + 4;

    private static final int FAULT_TOKEN = 1;
    private static final int FAULT_TOO_MUCH = 2;
    private static final int FAULT_TOLD_ALREADY = 3;
    private static final int FAULT_CALL = 4;

    // What a NAME or a MARK may be: FACTS are sets of these two.
    private static final int NOTHING = 1;
    private static final int THING = 2;
    private static final int EITHER = 3;

    private static final int ANSWERS_NOTHING = 0;
    private static final int ANSWERS_THING = 1;
    private static final int FAILS = 2;
    private static final int SPENT = 3;

    // All MARKS stand in one row, in the order in which CANDIDATES are taken.
    private static final int FIRST_ANSWER = LETTERS * MOST_PARAMETERS;
    private static final int FIRST_FIELD = FIRST_ANSWER + LETTERS;
    private static final int ALL_MARKS = FIRST_FIELD + 2;

    private static final int PRICE_PARAMETER = 0;
    private static final int PRICE_ANSWER = 1;
    private static final int PRICE_FIELD = 2;
    private static final int PRICE_GUARD = 3;
    private static final int HIGHEST_PRICE = 99;

    private final byte[] tape = new byte[MOST_BYTES];
    private int taped;
    private final Tokens tokens = new Tokens();
    private Program spare = new Program();
    private final Reader reader = new Reader(tokens, spare);
    private int faultKind;
    private int faultPlace = NONE;
    private final Scene scene = new Scene(new Program());
    private final Facts facts = new Facts(scene);
    private final Runner runner = new Runner(scene);
    private final Trials trials = new Trials(scene, runner);
    private final Mender mender = new Mender(facts);
    private final int[] ranRow = {NONE, NONE, NONE, NONE};

    public NothingJudge() {
    }

    public int feed(int a, int b, int c, int d, int e) {
        if (taped + FED_BYTES > MOST_BYTES) {
            return NONE;
        }
        putNumber(a);
        putNumber(b);
        putNumber(c);
        putNumber(d);
        putNumber(e);
        return taped;
    }

    public int text(int n) {
        if (n < 0 || n > taped) {
            return NOT_TAKEN;
        }
        taped = 0;
        tokens.scan(tape, n);
        reader.readInto(spare);
        faultKind = reader.wrong;
        faultPlace = reader.wrongPlace;
        if (faultKind != 0) {
            return NONE;
        }
        Program old = scene.program;
        scene.program = spare;
        spare = old;
        scene.startAt(scene.program.first);
        forget();
        return scene.program.routines;
    }

    public int fault(int what) {
        if (what == 0) {
            return faultKind;
        }
        return what == 1 ? faultPlace : NONE;
    }

    public boolean entry(int routine) {
        if (!scene.program.has(routine)) {
            return false;
        }
        scene.startAt(routine);
        forget();
        return true;
    }

    public boolean outer(int parameter, int fact) {
        if (parameter < 0 || parameter >= scene.outers() || fact < NOTHING || fact > EITHER) {
            return false;
        }
        Rows.put(scene.told, parameter, fact);
        forget();
        return true;
    }

    public int mark(int kind, int routine, int k) {
        int index = markIndex(kind, routine, k);
        if (index == NONE) {
            return NONE;
        }
        facts.settle(0);
        return Rows.at(facts.marks, index);
    }

    public int use(int use, int what) {
        Program program = scene.program;
        if (use < 0 || use >= program.uses) {
            return NONE;
        }
        switch (what) {
            case 0:
                facts.settle(0);
                return verdictOfUse(Rows.at(facts.used, use));
            case 1:
                return Rows.at(program.useOwner, use);
            case 2:
                return Rows.at(program.usePlace, use);
            case 3:
                return Rows.at(program.useName, use);
            default:
                return NONE;
        }
    }

    public int test(int test, int what) {
        Program program = scene.program;
        if (test < 0 || test >= program.tests) {
            return NONE;
        }
        switch (what) {
            case 0:
                facts.settle(0);
                return verdictOfTest(Rows.at(facts.tested, test));
            case 1:
                return Rows.at(program.testOwner, test);
            case 2:
                return Rows.at(program.testPlace, test);
            default:
                return NONE;
        }
    }

    public int run(int bits, int choices) {
        if (choices < 0 || choices >= ALL_CHOICES || !scene.allows(bits)) {
            return NONE;
        }
        int outcome = runner.go(bits, choices);
        Rows.put(ranRow, 0, runner.steps);
        Rows.put(ranRow, 1, runner.failedAt);
        Rows.put(ranRow, 2, runner.things);
        Rows.put(ranRow, 3, runner.anys);
        return outcome;
    }

    public int ran(int what) {
        return what < 0 || what >= ranRow.length ? NONE : ranRow[what];
    }

    public int tries(int use) {
        if (use < 0 || use >= scene.program.uses) {
            return NONE;
        }
        facts.settle(0);
        trials.fill(facts.guardsNeeded());
        return Rows.at(trials.first, use);
    }

    public boolean price(int what, int n) {
        if (what < PRICE_PARAMETER || what > PRICE_GUARD || n < 1 || n > HIGHEST_PRICE) {
            return false;
        }
        Rows.put(mender.prices, what, n);
        mender.stale = true;
        return true;
    }

    public int mend() {
        if (scene.program.routines == 0) {
            return NONE;
        }
        mender.search();
        return mender.cost;
    }

    public int mended(int what) {
        if (mender.cost == NONE) {
            return NONE;
        }
        if (what == 0) {
            return mender.heldMarks;
        }
        if (what == 1) {
            return mender.guards;
        }
        return what < 2 || what - 2 >= mender.heldMarks ? NONE : Rows.at(mender.heldNames, what - 2);
    }

    public int count(int what) {
        switch (what) {
            case 0:
                return scene.program.routines;
            case 1:
                return scene.program.uses;
            case 2:
                return scene.program.tests;
            case 3:
                return scene.start;
            case 4:
                return usesOfFact(EITHER);
            case 5:
                return usesOfFact(NOTHING);
            default:
                return NONE;
        }
    }

    private void putNumber(int number) {
        for (int shift = 24; shift >= 0; shift -= 8) {
            if (taped >= 0 && taped < tape.length) {
                tape[taped] = (byte) (number >> shift);
                taped++;
            }
        }
    }

    private void forget() {
        facts.stale = true;
        trials.stale = true;
        mender.stale = true;
    }

    private int markIndex(int kind, int routine, int k) {
        if (kind == 2) {
            return k == 0 || k == 1 ? FIRST_FIELD + k : NONE;
        }
        if (!scene.program.has(routine)) {
            return NONE;
        }
        if (kind == 1) {
            return FIRST_ANSWER + routine;
        }
        boolean isParameter = kind == 0 && k >= 0 && k < Rows.at(scene.program.arity, routine);
        return isParameter ? routine * MOST_PARAMETERS + k : NONE;
    }

    private int usesOfFact(int fact) {
        facts.settle(0);
        int found = 0;
        for (int use = 0; use < scene.program.uses; use++) {
            if (Rows.at(facts.used, use) == fact) {
                found++;
            }
        }
        return found;
    }

    private static int verdictOfUse(int fact) {
        switch (fact) {
            case THING:
                return 1;
            case EITHER:
                return 2;
            case NOTHING:
                return 3;
            default:
                return 0;
        }
    }

    private static int verdictOfTest(int ends) {
        switch (ends) {
            case Facts.TRUE_END:
                return 1;
            case Facts.FALSE_END:
                return 2;
            case 0:
                return 3;
            default:
                return 0;
        }
    }

    /** Rows of numbers, looked into only where they have something. */
    private static final class Rows {
        static int at(int[] row, int k) {
            return k >= 0 && k < row.length ? row[k] : 0;
        }

        static void put(int[] row, int k, int number) {
            if (k >= 0 && k < row.length) {
                row[k] = number;
            }
        }
    }

    /** The TOKENS of a text, each with its place and, of a NAME or a routine's LETTER, which letter. */
    private static final class Tokens {
        static final int END = 0;
        static final int BAD = 1;
        static final int NAME = 2;
        static final int LETTER = 3;
        static final int OPEN_ROUND = 4;
        static final int CLOSE_ROUND = 5;
        static final int OPEN_BLOCK = 6;
        static final int CLOSE_BLOCK = 7;
        static final int COMMA = 8;
        static final int SEMICOLON = 9;
        static final int EQUALS = 10;
        static final int DOT = 11;
        static final int WORD_IF = 12;
        static final int WORD_ELSE = 13;
        static final int WORD_WHILE = 14;
        static final int WORD_IS = 15;
        static final int WORD_NOT = 16;
        static final int WORD_NOTHING = 17;
        static final int WORD_NEW = 18;
        static final int WORD_ANY = 19;
        static final int WORD_RETURN = 20;

        // Place, kind and letter share a number, so that a text of tokens is one row only.
        private static final int KIND_SHIFT = 5;
        private static final int PLACE_SHIFT = 10;
        private static final int PART = 31;

        final int[] packed = new int[MOST_BYTES];
        int size;
        int length;

        void scan(byte[] tape, int bytes) {
            size = 0;
            length = Math.min(bytes, tape.length);
            for (int place = 0; place < length; place++) {
                int letter = tape[place];
                if (isSmall(letter)) {
                    int end = endOfWord(tape, place);
                    add(kindOfWord(tape, place, end - place), place, letter - 'a');
                    place = Math.max(place, end - 1);
                } else if (letter >= 'A' && letter < 'A' + LETTERS) {
                    add(LETTER, place, letter - 'A');
                } else if (letter != ' ' && letter != '\n') {
                    add(kindOfSign(letter), place, 0);
                }
            }
        }

        int kindAt(int k) {
            return k >= 0 && k < size && k < packed.length ? packed[k] >> KIND_SHIFT & PART : END;
        }

        int placeAt(int k) {
            return k >= 0 && k < size && k < packed.length ? packed[k] >> PLACE_SHIFT : length;
        }

        int letterAt(int k) {
            return k >= 0 && k < size && k < packed.length ? packed[k] & PART : 0;
        }

        private void add(int kind, int place, int letter) {
            Rows.put(packed, size, place << PLACE_SHIFT | kind << KIND_SHIFT | letter);
            size++;
        }

        private int endOfWord(byte[] tape, int from) {
            int end = from + 1;
            while (end < length && end < tape.length && isSmall(tape[end])) {
                end++;
            }
            return end;
        }

        private static boolean isSmall(int letter) {
            return letter >= 'a' && letter <= 'z';
        }

        private static int kindOfSign(int sign) {
            switch (sign) {
                case '(':
                    return OPEN_ROUND;
                case ')':
                    return CLOSE_ROUND;
                case '{':
                    return OPEN_BLOCK;
                case '}':
                    return CLOSE_BLOCK;
                case ',':
                    return COMMA;
                case ';':
                    return SEMICOLON;
                case '=':
                    return EQUALS;
                case '.':
                    return DOT;
                default:
                    return BAD;
            }
        }

        private static int kindOfWord(byte[] tape, int from, int letters) {
            switch (letters) {
                case 1:
                    return NAME;
                case 2:
                    return spells(tape, from, "if") ? WORD_IF : spells(tape, from, "is") ? WORD_IS : BAD;
                case 3:
                    if (spells(tape, from, "any")) {
                        return WORD_ANY;
                    }
                    return spells(tape, from, "new") ? WORD_NEW : spells(tape, from, "not") ? WORD_NOT : BAD;
                case 4:
                    return spells(tape, from, "else") ? WORD_ELSE : BAD;
                case 5:
                    return spells(tape, from, "while") ? WORD_WHILE : BAD;
                case 6:
                    return spells(tape, from, "return") ? WORD_RETURN : BAD;
                case 7:
                    return spells(tape, from, "nothing") ? WORD_NOTHING : BAD;
                default:
                    return BAD;
            }
        }

        private static boolean spells(byte[] tape, int from, String word) {
            if (from < 0 || from + word.length() > tape.length) {
                return false;
            }
            for (int k = 0; k < word.length(); k++) {
                if (tape[from + k] != word.charAt(k)) {
                    return false;
                }
            }
            return true;
        }
    }

    /** A program as a row of instructions, so that neither runs nor FACTS go through a tree. */
    private static final class Code {
        static final int OP = 0;
        static final int NAME = 1;
        static final int FIELD = 2;
        static final int NUMBER = 3;
        static final int KIND = 4;
        static final int LEFT = 5;
        static final int RIGHT = 6;
        static final int SOURCE = 7;
        static final int ARGUMENTS = 8;
        static final int PLACE = 9;
        static final int GOAL = 10;
        static final int OWNER = 11;
        private static final int WIDTH = 12;

        static final int FINISH = 0;
        static final int JUMP = 1;
        static final int BRANCH = 2;
        static final int ASSIGN = 3;
        static final int STORE = 4;
        static final int DROP = 5;
        static final int RETURN = 6;

        static final int IS_NOTHING = 0;
        static final int IS_ANY = 1;
        static final int IS_NEW = 2;
        static final int IS_NAME = 3;
        static final int IS_FIELD = 4;
        static final int IS_CALL = 5;
        static final int TEST_NOTHING = 6;
        static final int TEST_THING = 7;

        private static final int ARGUMENT_BITS = 5;
        private static final int COUNT_SHIFT = ARGUMENT_BITS * MOST_PARAMETERS;

        final int[] cells = new int[MOST_CODE * WIDTH];
        int size;

        int add(int op, int owner) {
            int pc = size;
            if (pc < 0 || pc >= MOST_CODE) {
                return NONE;
            }
            size++;
            for (int part = 0; part < WIDTH; part++) {
                set(pc, part, 0);
            }
            set(pc, OP, op);
            set(pc, OWNER, owner);
            return pc;
        }

        int get(int pc, int part) {
            int cell = pc * WIDTH + part;
            return pc >= 0 && pc < size && cell >= 0 && cell < cells.length ? cells[cell] : 0;
        }

        void set(int pc, int part, int number) {
            int cell = pc * WIDTH + part;
            if (pc >= 0 && pc < size && cell >= 0 && cell < cells.length) {
                cells[cell] = number;
            }
        }

        void addArgument(int pc, int name) {
            int packed = get(pc, ARGUMENTS);
            int k = packed >> COUNT_SHIFT;
            set(pc, ARGUMENTS, packed + (1 << COUNT_SHIFT) + (name << k * ARGUMENT_BITS));
        }

        int arguments(int pc) {
            return get(pc, ARGUMENTS) >> COUNT_SHIFT;
        }

        int argument(int pc, int k) {
            return get(pc, ARGUMENTS) >> k * ARGUMENT_BITS & (1 << ARGUMENT_BITS) - 1;
        }
    }

    /** What a text tells: its code, and by their numbers its routines, USES and TESTS. */
    private static final class Program {
        final Code code = new Code();
        final int[] opening = new int[LETTERS];
        final int[] arity = new int[LETTERS];
        final int[] parameters = new int[LETTERS * MOST_PARAMETERS];
        final int[] useOwner = new int[MOST_USES];
        final int[] usePlace = new int[MOST_USES];
        final int[] useName = new int[MOST_USES];
        final int[] testOwner = new int[MOST_TESTS];
        final int[] testPlace = new int[MOST_TESTS];
        int told;
        int routines;
        int uses;
        int tests;
        int first = NONE;

        void clear() {
            code.size = 0;
            told = 0;
            routines = 0;
            uses = 0;
            tests = 0;
            first = NONE;
        }

        boolean has(int letter) {
            return letter >= 0 && letter < LETTERS && (told >> letter & 1) != 0;
        }

        void addRoutine(int letter) {
            if (routines == 0) {
                first = letter;
            }
            routines++;
            told |= 1 << letter;
            Rows.put(opening, letter, code.size);
            Rows.put(arity, letter, 0);
        }

        void addParameter(int letter, int name) {
            int k = Rows.at(arity, letter);
            Rows.put(parameters, letter * MOST_PARAMETERS + k, name);
            Rows.put(arity, letter, k + 1);
        }

        int parameter(int letter, int k) {
            return Rows.at(parameters, letter * MOST_PARAMETERS + k);
        }

        boolean hasParameter(int letter, int name) {
            for (int k = 0; k < Rows.at(arity, letter) && k < MOST_PARAMETERS; k++) {
                if (parameter(letter, k) == name) {
                    return true;
                }
            }
            return false;
        }

        int addUse(int letter, int place, int name) {
            int use = uses;
            if (use < 0 || use >= MOST_USES) {
                return NONE;
            }
            useOwner[use] = letter;
            usePlace[use] = place;
            useName[use] = name;
            uses++;
            return use;
        }

        int addTest(int letter, int place) {
            int test = tests;
            if (test < 0 || test >= MOST_TESTS) {
                return NONE;
            }
            testOwner[test] = letter;
            testPlace[test] = place;
            tests++;
            return test;
        }
    }

    /** Reads TOKENS into a program up to the first FAULT. */
    private static final class Reader {
        private static final int OF_ROUTINE = 0;
        private static final int OF_IF = 1;
        private static final int OF_ELSE = 2;
        private static final int OF_WHILE = 3;
        private static final int FIELD_P = 'p' - 'a';
        private static final int FIELD_Q = 'q' - 'a';

        final Tokens tokens;
        final int[] openKind = new int[MOST_OPEN];
        final int[] openAt = new int[MOST_OPEN];
        Program program;
        Code code;
        int next;
        int open;
        int letter;
        int wrong;
        int wrongPlace = NONE;

        Reader(Tokens tokens, Program program) {
            this.tokens = tokens;
            this.program = program;
            this.code = program.code;
        }

        void readInto(Program target) {
            program = target;
            code = target.code;
            target.clear();
            next = 0;
            open = 0;
            wrong = 0;
            wrongPlace = NONE;
            // Each turn takes a token at least, or ends the reading with a FAULT.
            for (int turn = 0; turn <= MOST_BYTES && wrong == 0 && (open > 0 || !seen(Tokens.END)); turn++) {
                if (open == 0) {
                    readHead();
                } else if (seen(Tokens.CLOSE_BLOCK)) {
                    closeBlock();
                } else {
                    readStatement();
                }
            }
            if (wrong == 0) {
                checkCalls();
            }
        }

        private boolean refuse(int kind, int place) {
            wrong = kind;
            wrongPlace = place;
            return false;
        }

        private boolean seen(int kind) {
            return tokens.kindAt(next) == kind;
        }

        private boolean take(int kind) {
            if (tokens.kindAt(next) != kind) {
                return refuse(FAULT_TOKEN, tokens.placeAt(next));
            }
            next++;
            return true;
        }

        private boolean readHead() {
            int at = next;
            if (!take(Tokens.LETTER)) {
                return false;
            }
            letter = tokens.letterAt(at);
            if (program.has(letter)) {
                return refuse(FAULT_TOLD_ALREADY, tokens.placeAt(at));
            }
            program.addRoutine(letter);
            return take(Tokens.OPEN_ROUND) && readParameters() && openBlock(OF_ROUTINE, NONE);
        }

        private boolean readParameters() {
            if (seen(Tokens.CLOSE_ROUND)) {
                return take(Tokens.CLOSE_ROUND);
            }
            for (int k = 0; k <= MOST_PARAMETERS; k++) {
                int at = next;
                if (!take(Tokens.NAME)) {
                    return false;
                }
                int name = tokens.letterAt(at);
                if (k == MOST_PARAMETERS) {
                    return refuse(FAULT_TOO_MUCH, tokens.placeAt(at));
                }
                if (program.hasParameter(letter, name)) {
                    return refuse(FAULT_TOLD_ALREADY, tokens.placeAt(at));
                }
                program.addParameter(letter, name);
                if (!seen(Tokens.COMMA)) {
                    break;
                }
                next++;
            }
            return take(Tokens.CLOSE_ROUND);
        }

        private boolean openBlock(int kind, int pc) {
            int at = next;
            if (!take(Tokens.OPEN_BLOCK)) {
                return false;
            }
            if (open >= MOST_OPEN) {
                return refuse(FAULT_TOO_MUCH, tokens.placeAt(at));
            }
            Rows.put(openKind, open, kind);
            Rows.put(openAt, open, pc);
            open++;
            return true;
        }

        private void closeBlock() {
            next++;
            open--;
            int pc = Rows.at(openAt, open);
            switch (Rows.at(openKind, open)) {
                case OF_ROUTINE:
                    code.add(Code.FINISH, letter);
                    break;
                case OF_WHILE:
                    code.set(code.add(Code.JUMP, letter), Code.GOAL, pc);
                    code.set(pc, Code.GOAL, code.size);
                    break;
                case OF_IF:
                    closeIf(pc);
                    break;
                default:
                    code.set(pc, Code.GOAL, code.size);
                    break;
            }
        }

        private void closeIf(int pc) {
            if (seen(Tokens.WORD_ELSE)) {
                next++;
                int jump = code.add(Code.JUMP, letter);
                code.set(pc, Code.GOAL, code.size);
                openBlock(OF_ELSE, jump);
            } else {
                code.set(pc, Code.GOAL, code.size);
            }
        }

        private boolean readStatement() {
            switch (tokens.kindAt(next)) {
                case Tokens.NAME:
                    return readPut();
                case Tokens.LETTER:
                    return readCall(code.add(Code.DROP, letter)) && take(Tokens.SEMICOLON);
                case Tokens.WORD_RETURN:
                    return readReturn();
                case Tokens.WORD_IF:
                    return readBranch(OF_IF);
                case Tokens.WORD_WHILE:
                    return readBranch(OF_WHILE);
                default:
                    return refuse(FAULT_TOKEN, tokens.placeAt(next));
            }
        }

        private boolean readPut() {
            int at = next;
            next++;
            int pc = code.add(seen(Tokens.DOT) ? Code.STORE : Code.ASSIGN, letter);
            code.set(pc, Code.NAME, tokens.letterAt(at));
            if (seen(Tokens.DOT) && !(readUse(at, pc, Code.NUMBER) && readField(pc, Code.FIELD))) {
                return false;
            }
            return take(Tokens.EQUALS) && readValue(pc) && take(Tokens.SEMICOLON);
        }

        // Comes to the NAME's place only once the '.' behind it has been seen.
        private boolean readUse(int at, int pc, int part) {
            if (program.uses >= MOST_USES) {
                return refuse(FAULT_TOO_MUCH, tokens.placeAt(at));
            }
            code.set(pc, part, program.addUse(letter, tokens.placeAt(at), tokens.letterAt(at)));
            next++;
            return true;
        }

        private boolean readField(int pc, int part) {
            int name = tokens.letterAt(next);
            if (tokens.kindAt(next) != Tokens.NAME || name != FIELD_P && name != FIELD_Q) {
                return refuse(FAULT_TOKEN, tokens.placeAt(next));
            }
            code.set(pc, part, name - FIELD_P);
            next++;
            return true;
        }

        private boolean readReturn() {
            next++;
            int pc = code.add(Code.RETURN, letter);
            if (seen(Tokens.SEMICOLON)) {
                code.set(pc, Code.KIND, Code.IS_NOTHING);
                next++;
                return true;
            }
            return readValue(pc) && take(Tokens.SEMICOLON);
        }

        private boolean readBranch(int blockKind) {
            next++;
            boolean isAny = seen(Tokens.WORD_ANY);
            int place = tokens.placeAt(next);
            if (!isAny && !seen(Tokens.NAME)) {
                return refuse(FAULT_TOKEN, place);
            }
            if (program.tests >= MOST_TESTS) {
                return refuse(FAULT_TOO_MUCH, place);
            }
            int pc = code.add(Code.BRANCH, letter);
            code.set(pc, Code.NUMBER, program.addTest(letter, place));
            code.set(pc, Code.KIND, Code.IS_ANY);
            code.set(pc, Code.NAME, tokens.letterAt(next));
            next++;
            return (isAny || readComparison(pc)) && openBlock(blockKind, pc);
        }

        private boolean readComparison(int pc) {
            boolean isNot = seen(Tokens.WORD_NOT);
            code.set(pc, Code.KIND, isNot ? Code.TEST_THING : Code.TEST_NOTHING);
            return take(isNot ? Tokens.WORD_NOT : Tokens.WORD_IS) && take(Tokens.WORD_NOTHING);
        }

        private boolean readValue(int pc) {
            switch (tokens.kindAt(next)) {
                case Tokens.WORD_NOTHING:
                    code.set(pc, Code.KIND, Code.IS_NOTHING);
                    next++;
                    return true;
                case Tokens.WORD_ANY:
                    code.set(pc, Code.KIND, Code.IS_ANY);
                    next++;
                    return true;
                case Tokens.WORD_NEW:
                    code.set(pc, Code.KIND, Code.IS_NEW);
                    next++;
                    return readName(pc, Code.LEFT) && readName(pc, Code.RIGHT);
                case Tokens.NAME:
                    return readNameOrField(pc);
                case Tokens.LETTER:
                    return readCall(pc);
                default:
                    return refuse(FAULT_TOKEN, tokens.placeAt(next));
            }
        }

        private boolean readName(int pc, int part) {
            code.set(pc, part, tokens.letterAt(next));
            return take(Tokens.NAME);
        }

        private boolean readNameOrField(int pc) {
            int at = next;
            code.set(pc, Code.LEFT, tokens.letterAt(at));
            next++;
            if (!seen(Tokens.DOT)) {
                code.set(pc, Code.KIND, Code.IS_NAME);
                return true;
            }
            code.set(pc, Code.KIND, Code.IS_FIELD);
            return readUse(at, pc, Code.SOURCE) && readField(pc, Code.RIGHT);
        }

        private boolean readCall(int pc) {
            code.set(pc, Code.KIND, Code.IS_CALL);
            code.set(pc, Code.RIGHT, tokens.letterAt(next));
            code.set(pc, Code.PLACE, tokens.placeAt(next));
            next++;
            if (!take(Tokens.OPEN_ROUND)) {
                return false;
            }
            if (seen(Tokens.CLOSE_ROUND)) {
                return take(Tokens.CLOSE_ROUND);
            }
            for (int k = 0; k <= MOST_PARAMETERS; k++) {
                int at = next;
                if (!take(Tokens.NAME)) {
                    return false;
                }
                if (k == MOST_PARAMETERS) {
                    return refuse(FAULT_TOO_MUCH, tokens.placeAt(at));
                }
                code.addArgument(pc, tokens.letterAt(at));
                if (!seen(Tokens.COMMA)) {
                    break;
                }
                next++;
            }
            return take(Tokens.CLOSE_ROUND);
        }

        // Only now: a routine may be called ahead of where it is told.
        private void checkCalls() {
            for (int pc = 0; pc < code.size && wrong == 0; pc++) {
                if (code.get(pc, Code.KIND) == Code.IS_CALL) {
                    int callee = code.get(pc, Code.RIGHT);
                    if (!program.has(callee) || Rows.at(program.arity, callee) != code.arguments(pc)) {
                        refuse(FAULT_CALL, code.get(pc, Code.PLACE));
                    }
                }
            }
        }
    }

    /** What is judged: a program, its ENTRY and what is told of the OUTER parameters. */
    private static final class Scene {
        Program program;
        int start = NONE;
        final int[] told = new int[MOST_PARAMETERS];

        Scene(Program program) {
            this.program = program;
        }

        void startAt(int letter) {
            start = letter;
            Arrays.fill(told, EITHER);
        }

        int outers() {
            return Math.min(Rows.at(program.arity, start), program.has(start) ? MOST_PARAMETERS : 0);
        }

        boolean allows(int bits) {
            if (!program.has(start) || bits < 0 || bits >= 1 << outers()) {
                return false;
            }
            for (int k = 0; k < outers(); k++) {
                int wanted = (bits >> k & 1) != 0 ? THING : NOTHING;
                if ((Rows.at(told, k) & wanted) == 0) {
                    return false;
                }
            }
            return true;
        }
    }

    /** The least MARKS, and the FACTS of NAMES by them; a set of MARKS may be HELD. */
    private static final class Facts {
        static final int TRUE_END = 1;
        static final int FALSE_END = 2;

        // A state has a bit for each NAME that may lead to nothing, and behind them one for each that
        // may lead to a THING; no NAME is of FACT 0 where a way comes by, so 0 is free for no way.
        private static final long ALL_NOTHING = (1L << NAMES) - 1;

        // Each round but the last adds a bit to some state or MARK: there are fewer of these.
        private static final int MOST_ROUNDS = MOST_CODE * NAMES * 2 + ALL_MARKS * 2 + LETTERS + 2;

        final Scene scene;
        final long[] state = new long[MOST_CODE];
        final int[] seenAt = new int[MOST_CODE];
        final int[] marks = new int[ALL_MARKS];
        final int[] used = new int[MOST_USES];
        final int[] tested = new int[MOST_TESTS];
        Program program;
        Code code;
        boolean stale = true;
        boolean changed;
        int reached;
        int version;
        long held;
        long now;

        Facts(Scene scene) {
            this.scene = scene;
            this.program = scene.program;
            this.code = scene.program.code;
        }

        void settle(long wantedHeld) {
            if (!stale && held == wantedHeld) {
                return;
            }
            clear();
            held = wantedHeld;
            reachEntry();
            changed = true;
            for (int round = 0; round < MOST_ROUNDS && changed; round++) {
                changed = false;
                openRoutines();
                for (int pc = 0; pc < code.size && pc < state.length; pc++) {
                    // An instruction tells nothing new till its state or a MARK that it may read grows.
                    if (state[pc] != 0 && Rows.at(seenAt, pc) != version) {
                        Rows.put(seenAt, pc, version);
                        advance(pc, state[pc]);
                    }
                }
            }
            stale = false;
        }

        int guardsNeeded() {
            int needed = 0;
            for (int use = 0; use < program.uses; use++) {
                if ((Rows.at(used, use) & NOTHING) != 0) {
                    needed++;
                }
            }
            return needed;
        }

        private void clear() {
            program = scene.program;
            code = program.code;
            reached = 0;
            version = 1;
            Arrays.fill(state, 0);
            Arrays.fill(seenAt, 0);
            Arrays.fill(marks, 0);
            Arrays.fill(used, 0);
            Arrays.fill(tested, 0);
        }

        private void reachEntry() {
            if (!program.has(scene.start)) {
                return;
            }
            reached = 1 << scene.start;
            for (int k = 0; k < scene.outers(); k++) {
                int fact = Rows.at(scene.told, k);
                raise(scene.start * MOST_PARAMETERS + k, fact);
                raise(FIRST_FIELD, fact & THING);
                raise(FIRST_FIELD + 1, fact & THING);
            }
        }

        private void openRoutines() {
            for (int letter = 0; letter < LETTERS; letter++) {
                if ((reached >> letter & 1) != 0) {
                    long names = ALL_NOTHING;
                    for (int k = 0; k < Rows.at(program.arity, letter); k++) {
                        int fact = Rows.at(marks, letter * MOST_PARAMETERS + k);
                        names = with(names, program.parameter(letter, k), fact);
                    }
                    join(Rows.at(program.opening, letter), names);
                }
            }
        }

        private void advance(int pc, long names) {
            int op = code.get(pc, Code.OP);
            if (op == Code.JUMP) {
                join(code.get(pc, Code.GOAL), names);
            } else if (op == Code.FINISH) {
                raise(FIRST_ANSWER + code.get(pc, Code.OWNER), NOTHING);
            } else if (op == Code.BRANCH) {
                fork(pc, names);
            } else {
                int fact = work(pc, names);
                if (now != 0) {
                    finish(pc, op, fact);
                }
            }
        }

        private void fork(int pc, long names) {
            int kind = code.get(pc, Code.KIND);
            int name = code.get(pc, Code.NAME);
            long ifTrue = names;
            long ifFalse = names;
            if (kind != Code.IS_ANY) {
                int wanted = kind == Code.TEST_NOTHING ? NOTHING : THING;
                ifTrue = narrow(names, name, wanted);
                ifFalse = narrow(names, name, EITHER - wanted);
            }
            int ends = (ifTrue != 0 ? TRUE_END : 0) | (ifFalse != 0 ? FALSE_END : 0);
            int number = code.get(pc, Code.NUMBER);
            Rows.put(tested, number, Rows.at(tested, number) | ends);
            join(pc + 1, ifTrue);
            join(code.get(pc, Code.GOAL), ifFalse);
        }

        // Answers the VALUE's FACT and leaves in now what the NAMES are behind it.
        private int work(int pc, long names) {
            int left = code.get(pc, Code.LEFT);
            int right = code.get(pc, Code.RIGHT);
            now = names;
            switch (code.get(pc, Code.KIND)) {
                case Code.IS_ANY:
                    raise(FIRST_FIELD, THING);
                    raise(FIRST_FIELD + 1, THING);
                    return EITHER;
                case Code.IS_NEW:
                    raise(FIRST_FIELD, factOf(names, left));
                    raise(FIRST_FIELD + 1, factOf(names, right));
                    return THING;
                case Code.IS_NAME:
                    return factOf(names, left);
                case Code.IS_FIELD:
                    noteUse(code.get(pc, Code.SOURCE), factOf(names, left));
                    now = narrow(names, left, THING);
                    return Rows.at(marks, FIRST_FIELD + right);
                case Code.IS_CALL:
                    return workCall(pc, names, right);
                default:
                    return NOTHING;
            }
        }

        private int workCall(int pc, long names, int callee) {
            if ((reached >> callee & 1) == 0) {
                reached |= 1 << callee;
                changed = true;
            }
            for (int k = 0; k < code.arguments(pc); k++) {
                raise(callee * MOST_PARAMETERS + k, factOf(names, code.argument(pc, k)));
            }
            int fact = Rows.at(marks, FIRST_ANSWER + callee);
            if (fact == 0) {
                now = 0;
            }
            return fact;
        }

        private void finish(int pc, int op, int fact) {
            int name = code.get(pc, Code.NAME);
            if (op == Code.ASSIGN) {
                join(pc + 1, with(now, name, fact));
            } else if (op == Code.STORE) {
                noteUse(code.get(pc, Code.NUMBER), factOf(now, name));
                now = narrow(now, name, THING);
                if (now != 0) {
                    raise(FIRST_FIELD + code.get(pc, Code.FIELD), fact);
                    join(pc + 1, now);
                }
            } else if (op == Code.RETURN) {
                raise(FIRST_ANSWER + code.get(pc, Code.OWNER), fact);
            } else {
                join(pc + 1, now);
            }
        }

        private void noteUse(int use, int fact) {
            Rows.put(used, use, Rows.at(used, use) | fact);
        }

        private void raise(int mark, int fact) {
            int coming = (held >> mark & 1) != 0 ? fact & THING : fact;
            int old = Rows.at(marks, mark);
            if ((old | coming) != old) {
                Rows.put(marks, mark, old | coming);
                version++;
                changed = true;
            }
        }

        private void join(int pc, long names) {
            if (pc >= 0 && pc < state.length && (state[pc] | names) != state[pc]) {
                state[pc] |= names;
                Rows.put(seenAt, pc, 0);
                changed = true;
            }
        }

        private static int factOf(long names, int name) {
            int nothing = (int) (names >> name & 1);
            int thing = (int) (names >> name + NAMES & 1);
            return nothing * NOTHING + thing * THING;
        }

        private static long with(long names, int name, int fact) {
            if (names == 0 || fact == 0) {
                return 0;
            }
            long others = names & ~(1L << name) & ~(1L << name + NAMES);
            long nothing = (fact & NOTHING) != 0 ? 1L << name : 0;
            long thing = (fact & THING) != 0 ? 1L << name + NAMES : 0;
            return others | nothing | thing;
        }

        private static long narrow(long names, int name, int kept) {
            return with(names, name, factOf(names, name) & kept);
        }
    }

    /** One run at a time, with a stack of its own for routines that are open. */
    private static final class Runner {
        private static final int MOST_STEPS = 400;
        private static final int MOST_THINGS = 300;
        private static final int MOST_CALLS = 12;
        private static final int GOING = -1;

        // Between two STEPS stand a few jumps and ends of routines at the most.
        private static final int MOST_TURNS = 1000000;

        final Scene scene;
        final int[] names = new int[(MOST_CALLS + 1) * NAMES];
        final int[] back = new int[MOST_CALLS];
        final int[] fields = new int[(MOST_THINGS + 1) * 2];
        Program program;
        Code code;
        int chosen;
        int steps;
        int things;
        int anys;
        int failedAt;
        int outcome;
        int pc;
        int depth;
        int value;
        boolean ready;

        Runner(Scene scene) {
            this.scene = scene;
            this.program = scene.program;
            this.code = scene.program.code;
        }

        int go(int bits, int choices) {
            begin(bits, choices);
            for (int turn = 0; turn < MOST_TURNS && outcome == GOING; turn++) {
                if (ready) {
                    finish();
                } else {
                    step();
                }
            }
            return outcome == GOING ? SPENT : outcome;
        }

        private void begin(int bits, int choices) {
            program = scene.program;
            code = program.code;
            chosen = choices;
            steps = 0;
            things = 0;
            anys = 0;
            failedAt = NONE;
            outcome = GOING;
            depth = 0;
            ready = false;
            clearNames();
            for (int k = 0; k < scene.outers(); k++) {
                boolean isThing = (bits >> k & 1) != 0;
                setName(program.parameter(scene.start, k), isThing ? makeLoop() : 0);
            }
            pc = Rows.at(program.opening, scene.start);
        }

        private void step() {
            int op = code.get(pc, Code.OP);
            if (op == Code.JUMP) {
                pc = code.get(pc, Code.GOAL);
            } else if (op == Code.FINISH) {
                leave(0);
            } else if (steps >= MOST_STEPS) {
                outcome = SPENT;
            } else {
                steps++;
                if (op == Code.BRANCH) {
                    pc = holds() ? pc + 1 : code.get(pc, Code.GOAL);
                } else {
                    work();
                }
            }
        }

        private boolean holds() {
            int kind = code.get(pc, Code.KIND);
            if (kind == Code.IS_ANY) {
                return choose();
            }
            boolean isNothing = nameOf(code.get(pc, Code.NAME)) == 0;
            return isNothing == (kind == Code.TEST_NOTHING);
        }

        private boolean choose() {
            int bit = Math.floorMod(anys, CHOICE_BITS);
            anys++;
            return (chosen >> bit & 1) != 0;
        }

        private void work() {
            int left = code.get(pc, Code.LEFT);
            int right = code.get(pc, Code.RIGHT);
            int thing = nameOf(left);
            int kind = code.get(pc, Code.KIND);
            value = 0;
            ready = true;
            if (kind == Code.IS_ANY) {
                value = choose() ? makeLoop() : 0;
            } else if (kind == Code.IS_NEW) {
                value = make(thing, nameOf(right));
            } else if (kind == Code.IS_NAME) {
                value = thing;
            } else if (kind == Code.IS_FIELD) {
                value = fieldOf(thing, right);
            } else if (kind == Code.IS_CALL) {
                enter(right);
            }
        }

        private void finish() {
            ready = false;
            int name = code.get(pc, Code.NAME);
            int op = code.get(pc, Code.OP);
            if (op == Code.RETURN) {
                leave(value);
                return;
            }
            if (op == Code.ASSIGN) {
                setName(name, value);
            } else if (op == Code.STORE) {
                store(nameOf(name));
            }
            pc++;
        }

        private int fieldOf(int thing, int field) {
            if (thing == 0) {
                outcome = FAILS;
                failedAt = code.get(pc, Code.SOURCE);
                return 0;
            }
            return Rows.at(fields, thing * 2 + field);
        }

        private void store(int thing) {
            if (thing == 0) {
                outcome = FAILS;
                failedAt = code.get(pc, Code.NUMBER);
                return;
            }
            Rows.put(fields, thing * 2 + code.get(pc, Code.FIELD), value);
        }

        private void enter(int callee) {
            if (depth >= MOST_CALLS) {
                outcome = SPENT;
                return;
            }
            int caller = depth;
            Rows.put(back, depth, pc);
            depth++;
            clearNames();
            for (int k = 0; k < code.arguments(pc); k++) {
                int passed = Rows.at(names, caller * NAMES + code.argument(pc, k));
                setName(program.parameter(callee, k), passed);
            }
            pc = Rows.at(program.opening, callee);
            ready = false;
        }

        private void leave(int answer) {
            if (depth == 0) {
                outcome = answer == 0 ? ANSWERS_NOTHING : ANSWERS_THING;
                return;
            }
            depth--;
            pc = Rows.at(back, depth);
            value = answer;
            ready = true;
        }

        private int makeLoop() {
            return make(things + 1, things + 1);
        }

        private int make(int p, int q) {
            if (things >= MOST_THINGS) {
                outcome = SPENT;
                return 0;
            }
            things++;
            Rows.put(fields, things * 2, p);
            Rows.put(fields, things * 2 + 1, q);
            return things;
        }

        private void clearNames() {
            for (int name = 0; name < NAMES; name++) {
                Rows.put(names, depth * NAMES + name, 0);
            }
        }

        private int nameOf(int name) {
            return Rows.at(names, depth * NAMES + name);
        }

        private void setName(int name, int thing) {
            Rows.put(names, depth * NAMES + name, thing);
        }
    }

    /** For each USE the first run that FAILS there. */
    private static final class Trials {
        // A run is numbered as tries() answers it.
        private static final int MOST_TRIALS = ALL_CHOICES << MOST_PARAMETERS;

        final Scene scene;
        final Runner runner;
        final int[] first = new int[MOST_USES];
        final int[] knownFor = new int[ALL_CHOICES];
        boolean stale = true;
        int missing;

        Trials(Scene scene, Runner runner) {
            this.scene = scene;
            this.runner = runner;
        }

        // No other USE can fail than those that want a guard: once all of these have, it is enough.
        void fill(int failing) {
            if (!stale) {
                return;
            }
            missing = failing;
            Arrays.fill(first, NONE);
            Arrays.fill(knownFor, NONE);
            for (int trial = 0; trial < MOST_TRIALS && missing > 0; trial++) {
                int bits = trial / ALL_CHOICES;
                int choices = trial % ALL_CHOICES;
                if (Rows.at(knownFor, choices) != bits && scene.allows(bits)) {
                    noteFailure(trial, runner.go(bits, choices));
                    skipTheSame(bits, choices);
                }
            }
            stale = false;
        }

        private void noteFailure(int trial, int outcome) {
            int use = runner.failedAt;
            if (outcome == FAILS && Rows.at(first, use) == NONE) {
                Rows.put(first, use, trial);
                missing--;
            }
        }

        // CHOICES that differ only in bits that no any asked for give the same run.
        private void skipTheSame(int bits, int choices) {
            if (runner.anys < CHOICE_BITS) {
                for (int same = choices; same < ALL_CHOICES; same += 1 << runner.anys) {
                    Rows.put(knownFor, same, bits);
                }
            }
        }
    }

    /** The cheapest set of HELD MARKS and guards. */
    private static final class Mender {
        private static final int MOST_CANDIDATES = 10;

        final Facts facts;
        final int[] prices = {3, 2, 5, 4};
        final int[] candidates = new int[MOST_CANDIDATES];
        final int[] heldNames = new int[MOST_CANDIDATES];
        boolean stale = true;
        int found;
        int best;
        int cost = NONE;
        int guards;
        int heldMarks;

        Mender(Facts facts) {
            this.facts = facts;
        }

        void search() {
            if (!stale) {
                return;
            }
            facts.settle(0);
            findCandidates();
            best = 0;
            guards = facts.guardsNeeded();
            cost = guards * Rows.at(prices, PRICE_GUARD);
            int set = (1 << found) - 1;
            while (set > 0) {
                facts.settle(marksOf(set));
                int needed = facts.guardsNeeded();
                consider(set, needed);
                set = Math.min(set - 1, nextBelow(set, needed));
            }
            nameHeld();
            stale = false;
        }

        private void consider(int set, int needed) {
            int total = priceOf(set) + needed * Rows.at(prices, PRICE_GUARD);
            if (total < cost || total == cost && set < best) {
                best = set;
                cost = total;
                guards = needed;
            }
        }

        // With more HELD no FACT grows: where the first k are all in a set, no set that differs from it in
        // these alone wants fewer guards. If the others are too dear even so, all such sets are passed over.
        private int nextBelow(int set, int needed) {
            for (int k = found; k > 0; k--) {
                int firstOnes = (1 << k) - 1;
                int others = set & ~firstOnes;
                if ((set & firstOnes) == firstOnes && isTooDear(others, needed)) {
                    return others - 1;
                }
            }
            return set - 1;
        }

        private boolean isTooDear(int set, int needed) {
            int least = priceOf(set) + needed * Rows.at(prices, PRICE_GUARD);
            return least > cost || least == cost && set >= best;
        }

        private void findCandidates() {
            found = 0;
            for (int mark = 0; mark < ALL_MARKS && found < MOST_CANDIDATES; mark++) {
                boolean isOuter = mark < FIRST_ANSWER && mark / MOST_PARAMETERS == facts.scene.start;
                if (!isOuter && Rows.at(facts.marks, mark) == EITHER) {
                    Rows.put(candidates, found, mark);
                    found++;
                }
            }
        }

        private long marksOf(int set) {
            long marks = 0;
            for (int k = 0; k < found; k++) {
                if ((set >> k & 1) != 0) {
                    marks |= 1L << Rows.at(candidates, k);
                }
            }
            return marks;
        }

        private int priceOf(int set) {
            int sum = 0;
            for (int k = 0; k < found; k++) {
                if ((set >> k & 1) != 0) {
                    sum += Rows.at(prices, priceKind(Rows.at(candidates, k)));
                }
            }
            return sum;
        }

        private void nameHeld() {
            heldMarks = 0;
            for (int k = 0; k < found; k++) {
                if ((best >> k & 1) != 0) {
                    Rows.put(heldNames, heldMarks, nameOfMark(Rows.at(candidates, k)));
                    heldMarks++;
                }
            }
        }

        private static int priceKind(int mark) {
            if (mark >= FIRST_FIELD) {
                return PRICE_FIELD;
            }
            return mark >= FIRST_ANSWER ? PRICE_ANSWER : PRICE_PARAMETER;
        }

        private static int nameOfMark(int mark) {
            if (mark >= FIRST_FIELD) {
                return 200 + mark - FIRST_FIELD;
            }
            if (mark >= FIRST_ANSWER) {
                return 100 + (mark - FIRST_ANSWER) * 10;
            }
            return mark / MOST_PARAMETERS * 10 + mark % MOST_PARAMETERS;
        }
    }
}
