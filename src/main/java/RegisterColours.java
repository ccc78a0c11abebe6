import java.util.Arrays;

/**
 * Values coloured into registers: code told as a text, its graph of what interferes, rounds of
 * merging, laying, colouring and spilling, and the runs and proofs that compare both codes.
 */
public final class RegisterColours {
    public static final int NONE = -1;

    private static final int NO_SUCH_LOOK = NONE - 99999;
    private static final int MOST_TAPE = 400;
    private static final int MOST_LINES = 40;
    private static final int MOST_TARGET = 40;
    private static final int MOST_CODE_STEPS = 3 * MOST_LINES;
    private static final int MOST_STEPS = 400;
    private static final int MOST_INPUT = 16;
    private static final int MOST_ROUNDS = 8;
    private static final int MOST_RUN = 2000;
    private static final int MOST_PASSES = 1000000;
    private static final int COLOURS = 8;

    private static final int CLASS_A = 0;
    private static final int CLASS_B = 1;
    private static final int CLASS_D = 2;

    // Where the numbers of VALUES begin; FIXED ones come first, so "is FIXED" is "is below FIRST_V".
    private static final int FIRST_V = 8;
    private static final int FIRST_W = 32;
    private static final int FIRST_D = 40;
    private static final int FIRST_NEW = 44;
    private static final int MOST_VALUES = 200;
    private static final int COUNT_V = FIRST_W - FIRST_V;
    private static final int COST_OF_NEW = 1000000;

    // Registers of class B stand behind those of class A where both lie in one row.
    private static final int REGISTERS_A = 8;
    private static final int REGISTERS = 12;

    private static final int KIND_NUMBER = 0;
    private static final int KIND_IN = 1;
    private static final int KIND_COPY = 2;
    private static final int KIND_PLUS = 3;
    private static final int KIND_MINUS = 4;
    private static final int KIND_TIMES = 5;
    private static final int KIND_CALL = 6;
    private static final int KIND_LOW = 7;
    private static final int KIND_HIGH = 8;
    private static final int KIND_IF = 9;
    private static final int KIND_GOTO = 10;
    private static final int KIND_OUT = 11;
    private static final int KIND_LOAD = 12;
    private static final int KIND_STORE = 13;

    private static final int NOT_SPILLED = 0;
    private static final int INTO_SLOT = 1;
    private static final int MADE_ANEW = 2;

    private final byte[] tape = new byte[MOST_TAPE];
    private int taped = 0;
    private final Reader reader = new Reader(tape);
    private final Told told = new Told();
    private final int[] classes = new int[FIRST_NEW];
    private final Graph drawn = new Graph(told.code, classes);
    private boolean drawnIsFresh = false;
    private final Runner runner = new Runner(told, classes);
    private int latestRun = NONE;
    // These three are large and many objects never need them, so they are made at first use.
    private Allocator allocator = null;
    private Prover prover = null;
    private Told kept = null;

    public RegisterColours() {
        fillClasses(classes);
    }

    public boolean set(int what, int v) {
        boolean can = false;
        if (what == 0 && v >= 2 && v <= REGISTERS_A) {
            told.k = v;
            told.clobbered = Math.min(told.clobbered, v);
            can = true;
        } else if (what == 1 && v >= 1 && v <= REGISTERS - REGISTERS_A) {
            told.m = v;
            can = true;
        } else if (what == 2 && v >= 1 && v <= told.k) {
            told.clobbered = v;
            can = true;
        }
        if (can) {
            forgetAllocation();
        }
        return can;
    }

    public int feed(int a, int b, int c, int d, int e) {
        if (taped + 20 > MOST_TAPE) {
            return NONE;
        }
        putOnTape(a);
        putOnTape(b);
        putOnTape(c);
        putOnTape(d);
        putOnTape(e);
        return taped;
    }

    public boolean end(int n) {
        if (n < 0 || n > taped) {
            return false;
        }
        taped = n;
        return true;
    }

    public int code() {
        boolean sound = reader.readText(taped);
        taped = 0;
        if (!sound) {
            return NONE;
        }
        told.code.takeFrom(reader.steps);
        told.lines = reader.lines;
        forgetAllocation();
        return told.lines;
    }

    public int fault(int what) {
        if (what == 0) {
            return reader.fault;
        }
        return what == 1 ? reader.faultPlace : NONE;
    }

    public int input(int v, boolean isTold) {
        if (isTold && told.inputs >= MOST_INPUT) {
            return NONE;
        }
        if (isTold) {
            told.input[told.inputs] = v;
            told.inputs++;
        } else {
            told.inputs = 0;
        }
        latestRun = NONE;
        return told.inputs;
    }

    public int allocate() {
        if (allocator == null) {
            allocator = new Allocator();
        }
        int rounds = allocator.doRounds(told);
        if (rounds != NONE) {
            told.left.takeFrom(allocator.draft);
            told.allocated = true;
            latestRun = NONE;
        }
        return rounds;
    }

    public int step(int i, boolean left, int what) {
        if (left && !told.allocated) {
            return NONE;
        }
        Steps steps = left ? told.left.steps : told.code;
        if (i < 0 || i >= steps.count) {
            return NONE;
        }
        switch (what) {
            case 0: return steps.kind[i];
            case 1: return steps.made[i];
            case 2: return steps.one[i];
            case 3: return steps.two[i];
            case 4: return steps.number[i];
            case 5: return left ? NONE : freshGraph().weight[i];
            case 6: return left ? told.left.registerOf(steps.made[i]) : NONE;
            case 7: return left ? told.left.registerOf(steps.one[i]) : NONE;
            case 8: return left ? told.left.registerOf(steps.two[i]) : NONE;
            default: return NONE;
        }
    }

    public int live(int i, int x) {
        if (i < 0 || i >= told.code.count || !isValue(x)) {
            return NONE;
        }
        return asNumber(freshGraph().isLive(i, x));
    }

    public int value(int x, int what) {
        if (!isValue(x)) {
            return NONE;
        }
        Graph graph = freshGraph();
        switch (what) {
            case 0: return asNumber(graph.isThere(x));
            case 1: return graph.cost[x];
            case 2: return graph.degreeAmong(x, graph.there);
            case 3: return graph.limitOf(x);
            case 4: return asNumber(graph.isHeavy(x, graph.there));
            default: return NONE;
        }
    }

    public int edge(int x, int y) {
        if (!isValue(x) || !isValue(y)) {
            return NONE;
        }
        return asNumber(freshGraph().hasEdge(x, y));
    }

    public int colour(int x, int what) {
        boolean fixedThatIsNot = x >= told.k && x < FIRST_V;
        if (!told.allocated || x < 0 || x >= MOST_VALUES || fixedThatIsNot) {
            return NONE;
        }
        switch (what) {
            case 0: return told.left.register[x];
            case 1: return told.left.fate[x];
            case 2: return told.left.node[x];
            default: return NONE;
        }
    }

    public int left(int what) {
        if (!told.allocated) {
            return NONE;
        }
        Left left = told.left;
        switch (what) {
            case 0: return left.rounds;
            case 1: return left.steps.count;
            case 2: return left.slots;
            case 3: return left.spilled;
            case 4: return left.anew;
            case 5: return left.merged;
            case 6: return left.movesInPlace();
            case 7: return left.steps.moves(left.classes);
            case 8: return Integer.bitCount(left.registersUsed() & (1 << REGISTERS_A) - 1);
            case 9: return Integer.bitCount(left.registersUsed() >>> REGISTERS_A);
            case 10: return left.spilledCost;
            case 11: return left.saved;
            default: return NONE;
        }
    }

    public int run(int which, int what) {
        if (which < 0 || which > 1 || (which == 1 && !told.allocated)) {
            return NONE;
        }
        if (latestRun != which) {
            runner.runSteps(which == 1);
            latestRun = which;
        }
        switch (what) {
            case 0: return asNumber(!runner.atEnd);
            case 1: return runner.done;
            case 2: return runner.outs;
            case 3: return runner.outNumber;
            default: return NONE;
        }
    }

    public int proved() {
        if (!told.allocated) {
            return NONE;
        }
        if (prover == null) {
            prover = new Prover(told.left);
        }
        return asNumber(prover.holdsEverywhere(told.clobbered));
    }

    public int graph(int what) {
        switch (what) {
            case 0: return asNumber(freshGraph().fewestColours() != NONE);
            case 1: return freshGraph().fewestColours();
            case 2: return freshGraph().clashes(told.painted);
            case 3: return freshGraph().heaviest();
            default: return NONE;
        }
    }

    public boolean paint(int x, int colour) {
        if (x < 0 || x >= COUNT_V || colour < NONE || colour >= COLOURS) {
            return false;
        }
        told.painted[x] = colour;
        return true;
    }

    public boolean image(boolean taken) {
        if (taken) {
            if (kept == null) {
                kept = new Told();
            }
            kept.takeFrom(told);
            return true;
        }
        if (kept == null) {
            return false;
        }
        told.takeFrom(kept);
        drawnIsFresh = false;
        latestRun = NONE;
        return true;
    }

    public int look(int what) {
        switch (what) {
            case 0: return told.lines;
            case 1: return told.code.count;
            case 2: return told.k;
            case 3: return told.m;
            case 4: return told.clobbered;
            case 5: return told.inputs;
            case 6: return freshGraph().thereNotFixed();
            case 7: return freshGraph().edgesNotFixed();
            case 8: return told.code.moves(classes);
            case 9: return told.paintedCount();
            case 10: return asNumber(told.allocated);
            default: return NO_SUCH_LOOK;
        }
    }

    private void putOnTape(int four) {
        for (int shift = 24; shift >= 0 && taped < MOST_TAPE; shift -= 8) {
            tape[taped] = (byte) (four >>> shift);
            taped++;
        }
    }

    private void forgetAllocation() {
        told.allocated = false;
        drawnIsFresh = false;
        latestRun = NONE;
    }

    private Graph freshGraph() {
        if (!drawnIsFresh) {
            drawn.draw(told, FIRST_NEW);
            drawnIsFresh = true;
        }
        return drawn;
    }

    private boolean isValue(int x) {
        return x >= 0 && x < FIRST_NEW && (x < told.k || x >= FIRST_V);
    }

    private static int asNumber(boolean yes) {
        return yes ? 1 : 0;
    }

    private static void fillClasses(int[] classes) {
        for (int x = 0; x < classes.length; x++) {
            classes[x] = classAtFirst(x);
        }
    }

    private static int classAtFirst(int x) {
        if (x < FIRST_W) {
            return CLASS_A;
        }
        return x < FIRST_D ? CLASS_B : CLASS_D;
    }

    private static boolean hasBit(long[] rows, int from, int bit) {
        return (rows[from + (bit >> 6)] >>> (bit & 63) & 1L) != 0;
    }

    private static void putBit(long[] rows, int from, int bit) {
        rows[from + (bit >> 6)] |= 1L << (bit & 63);
    }

    private static void dropBit(long[] rows, int from, int bit) {
        rows[from + (bit >> 6)] &= ~(1L << (bit & 63));
    }

    /** The first bit at this one or behind it in a row of so many bits; that many if there is none. */
    private static int nextBit(long[] rows, int from, int bits, int bit) {
        long asked = -1L << (bit & 63);
        for (int w = bit >> 6; 64 * w < bits; w++) {
            long found = rows[from + w] & asked;
            if (found != 0L) {
                return 64 * w + Long.bitCount((found & -found) - 1);
            }
            asked = -1L;
        }
        return bits;
    }

    /** A row of STEPS: of THE CODE, or of what a ROUND works on. */
    private static final class Steps {
        final int[] kind;
        final int[] made;
        final int[] one;
        final int[] two;
        final int[] number;
        int count = 0;

        Steps(int room) {
            kind = new int[room];
            made = new int[room];
            one = new int[room];
            two = new int[room];
            number = new int[room];
        }

        boolean add(int kindOfIt, int makes, int readsOne, int readsTwo, int itsNumber) {
            if (count >= kind.length) {
                return false;
            }
            kind[count] = kindOfIt;
            made[count] = makes;
            one[count] = readsOne;
            two[count] = readsTwo;
            number[count] = itsNumber;
            count++;
            return true;
        }

        void takeFrom(Steps other) {
            int many = Math.min(other.count, kind.length);
            System.arraycopy(other.kind, 0, kind, 0, many);
            System.arraycopy(other.made, 0, made, 0, many);
            System.arraycopy(other.one, 0, one, 0, many);
            System.arraycopy(other.two, 0, two, 0, many);
            System.arraycopy(other.number, 0, number, 0, many);
            count = many;
        }

        boolean isJump(int i) {
            return kind[i] == KIND_IF || kind[i] == KIND_GOTO;
        }

        boolean isMove(int i, int[] classes) {
            return kind[i] == KIND_COPY && classes[made[i]] == classes[one[i]];
        }

        int moves(int[] classes) {
            int many = 0;
            for (int i = 0; i < count; i++) {
                if (isMove(i, classes)) {
                    many++;
                }
            }
            return many;
        }

        /** The STEP that follows in the row, or NONE where only the jump goes on. */
        int following(int i) {
            return kind[i] == KIND_GOTO ? NONE : i + 1;
        }

        int jumpFrom(int i) {
            return isJump(i) ? number[i] : NONE;
        }
    }

    /** All that THE IMAGE keeps: what was told and what ALLOCATE left of it. */
    private static final class Told {
        int k = 4;
        int m = 2;
        int clobbered = 1;
        int lines = 0;
        int inputs = 0;
        boolean allocated = false;
        final Steps code = new Steps(MOST_CODE_STEPS);
        final int[] input = new int[MOST_INPUT];
        final int[] painted = new int[COUNT_V];
        final Left left = new Left();

        Told() {
            Arrays.fill(painted, NONE);
        }

        void takeFrom(Told other) {
            k = other.k;
            m = other.m;
            clobbered = other.clobbered;
            lines = other.lines;
            inputs = other.inputs;
            allocated = other.allocated;
            code.takeFrom(other.code);
            System.arraycopy(other.input, 0, input, 0, MOST_INPUT);
            System.arraycopy(other.painted, 0, painted, 0, COUNT_V);
            if (other.allocated) {
                left.takeFrom(other.left);
            }
        }

        int paintedCount() {
            int many = 0;
            for (int x = 0; x < COUNT_V; x++) {
                if (painted[x] != NONE) {
                    many++;
                }
            }
            return many;
        }
    }

    /** What ALLOCATE left, or is about to leave. */
    private static final class Left {
        final Steps steps = new Steps(MOST_STEPS);
        final int[] classes = new int[MOST_VALUES];
        final int[] register = new int[MOST_VALUES];
        final int[] fate = new int[MOST_VALUES];
        final int[] node = new int[MOST_VALUES];
        int values = FIRST_NEW;
        int rounds = 0;
        int slots = 0;
        int spilled = 0;
        int anew = 0;
        int merged = 0;
        int spilledCost = 0;
        int saved = 0;

        void begin(Steps code) {
            steps.takeFrom(code);
            fillClasses(classes);
            Arrays.fill(register, NONE);
            Arrays.fill(fate, NOT_SPILLED);
            Arrays.fill(node, NONE);
            values = FIRST_NEW;
            rounds = 0;
            slots = 0;
            spilled = 0;
            anew = 0;
            merged = 0;
            spilledCost = 0;
            saved = 0;
        }

        void takeFrom(Left other) {
            steps.takeFrom(other.steps);
            System.arraycopy(other.classes, 0, classes, 0, MOST_VALUES);
            System.arraycopy(other.register, 0, register, 0, MOST_VALUES);
            System.arraycopy(other.fate, 0, fate, 0, MOST_VALUES);
            System.arraycopy(other.node, 0, node, 0, MOST_VALUES);
            values = other.values;
            rounds = other.rounds;
            slots = other.slots;
            spilled = other.spilled;
            anew = other.anew;
            merged = other.merged;
            spilledCost = other.spilledCost;
            saved = other.saved;
        }

        int registerOf(int x) {
            return x < 0 || x >= MOST_VALUES ? NONE : register[x];
        }

        /** The registers of VALUE x as bits: a pair has two of them. */
        int registersOf(int x) {
            int its = registerOf(x);
            return its < 0 ? 0 : registerBits(classes[x], its);
        }

        int movesInPlace() {
            int many = 0;
            for (int i = 0; i < steps.count; i++) {
                if (steps.isMove(i, classes) && registerOf(steps.made[i]) == registerOf(steps.one[i])) {
                    many++;
                }
            }
            return many;
        }

        int registersUsed() {
            int used = 0;
            for (int i = 0; i < steps.count; i++) {
                used |= registersOf(steps.made[i]) | registersOf(steps.one[i]) | registersOf(steps.two[i]);
            }
            return used;
        }

        static int registerBits(int itsClass, int its) {
            if (itsClass == CLASS_A) {
                return 1 << its;
            }
            return itsClass == CLASS_B ? 1 << REGISTERS_A + its : 3 << 2 * its;
        }
    }

    /** Reads THE CODE from a text into STEPS, or tells the first FAULT of it. */
    private static final class Reader {
        // Signs stand for themselves as tokens, so what else there is stays below the least of them.
        private static final int END = 0;
        private static final int BAD = 1;
        private static final int NUMBER = 2;
        private static final int V = 3;
        private static final int W = 4;
        private static final int D = 5;
        private static final int IF = 6;
        private static final int GOTO = 7;
        private static final int OUT = 8;
        private static final int IN = 9;
        private static final int CALL = 10;
        private static final int LOW = 11;
        private static final int HIGH = 12;

        // Sets of classes that may stand at a place.
        private static final int OF_A = 1 << CLASS_A;
        private static final int OF_B = 1 << CLASS_B;
        private static final int OF_D = 1 << CLASS_D;

        final Steps steps = new Steps(MOST_CODE_STEPS);
        int lines = 0;
        int fault = 0;
        int faultPlace = NONE;
        private final byte[] text;
        private final int[] tokens = new int[MOST_TAPE + 1];
        private final int[] places = new int[MOST_TAPE + 1];
        private final int[] numbers = new int[MOST_TAPE + 1];
        private final int[] firstStep = new int[MOST_LINES + 1];
        private final int[] jumpPlace = new int[MOST_LINES];
        private int at = 0;

        Reader(byte[] itsText) {
            text = itsText;
        }

        boolean readText(int length) {
            cutTokens(length);
            at = 0;
            lines = 0;
            fault = 0;
            faultPlace = NONE;
            steps.count = 0;
            for (int line = 0; line <= MOST_LINES && tokens[at] != END && fault == 0; line++) {
                readLine();
            }
            if (fault == 0) {
                settleJumps();
            }
            return fault == 0;
        }

        private void readLine() {
            int opening = tokens[at];
            boolean begins = isLetterOfX() || opening == IF || opening == GOTO || opening == OUT;
            if (!begins || lines >= MOST_LINES) {
                blame(begins ? 3 : 1);
                return;
            }
            firstStep[lines] = steps.count;
            jumpPlace[lines] = NONE;
            if (isLetterOfX()) {
                readMaking();
            } else if (opening == IF) {
                readIf();
            } else if (opening == GOTO) {
                readJump(KIND_GOTO, NONE, NONE);
            } else {
                advance();
                steps.add(KIND_OUT, NONE, readX(OF_A | OF_B), NONE, NONE);
            }
            expect(';');
            lines++;
        }

        private void readIf() {
            advance();
            int x = readX(OF_A | OF_B);
            expect('<');
            int y = readX(setOfClass(x));
            readJump(KIND_IF, x, y);
        }

        private void readJump(int kind, int x, int y) {
            expect(GOTO);
            jumpPlace[lines] = places[at];
            steps.add(kind, NONE, x, y, readNumber(MOST_TARGET));
        }

        private void readMaking() {
            int x = readX(OF_A | OF_B | OF_D);
            expect('=');
            if (fault != 0) {
                return;
            }
            int made = setOfClass(x);
            int token = tokens[at];
            if (isLetterOfX()) {
                readOperation(x);
            } else if (token == NUMBER && made != OF_D) {
                steps.add(KIND_NUMBER, x, NONE, NONE, numbers[at]);
                advance();
            } else if (token == IN && made != OF_D) {
                steps.add(KIND_IN, x, NONE, NONE, NONE);
                advance();
            } else if ((token == LOW || token == HIGH) && made == OF_A) {
                advance();
                steps.add(token == LOW ? KIND_LOW : KIND_HIGH, x, readX(OF_D), NONE, NONE);
            } else if (token == CALL && made == OF_A) {
                advance();
                addCall(x, readX(OF_A));
            } else {
                blame(1);
            }
        }

        private void addCall(int x, int y) {
            steps.add(KIND_COPY, 0, y, NONE, NONE);
            steps.add(KIND_CALL, 0, 0, NONE, NONE);
            steps.add(KIND_COPY, x, 0, NONE, NONE);
        }

        private void readOperation(int x) {
            int made = setOfClass(x);
            int y = readX(made == OF_D ? OF_A | OF_D : OF_A | OF_B);
            if (fault != 0) {
                return;
            }
            int read = setOfClass(y);
            int kind = kindOfSign(made, read);
            if (kind != NONE) {
                advance();
                steps.add(kind, x, y, readX(read), NONE);
            } else if (made == OF_D && read == OF_A) {
                blame(1);
            } else {
                steps.add(KIND_COPY, x, y, NONE, NONE);
            }
        }

        /** The kind of the sign that stands here, NONE if it is none that can stand between these. */
        private int kindOfSign(int made, int read) {
            int token = tokens[at];
            boolean wholeProduct = made == OF_D && read == OF_A;
            boolean alike = made == read && made != OF_D;
            if (token == '*' && (wholeProduct || alike)) {
                return KIND_TIMES;
            }
            if (token == '+' && alike) {
                return KIND_PLUS;
            }
            return token == '-' && alike ? KIND_MINUS : NONE;
        }

        /** Reads a letter and a NUMBER: the VALUE, or NONE with a FAULT. */
        private int readX(int may) {
            if (fault != 0) {
                return NONE;
            }
            if (!isLetterOfX()) {
                blame(1);
                return NONE;
            }
            int letter = tokens[at];
            int its = letter == V ? OF_A : letter == W ? OF_B : OF_D;
            if ((its & may) == 0) {
                blame(4);
                return NONE;
            }
            advance();
            int first = letter == V ? FIRST_V : letter == W ? FIRST_W : FIRST_D;
            int behind = letter == V ? FIRST_W : letter == W ? FIRST_D : FIRST_NEW;
            int number = readNumber(behind - first - 1);
            return number == NONE ? NONE : first + number;
        }

        private int readNumber(int most) {
            if (fault != 0) {
                return NONE;
            }
            if (tokens[at] != NUMBER || numbers[at] > most) {
                blame(tokens[at] != NUMBER ? 1 : 2);
                return NONE;
            }
            int number = numbers[at];
            advance();
            return number;
        }

        private void expect(int token) {
            if (fault != 0) {
                return;
            }
            if (tokens[at] == token) {
                advance();
            } else {
                blame(1);
            }
        }

        /** The token END is never passed. */
        private void advance() {
            if (tokens[at] != END) {
                at++;
            }
        }

        private void blame(int what) {
            fault = what;
            faultPlace = places[at];
        }

        private boolean isLetterOfX() {
            return tokens[at] == V || tokens[at] == W || tokens[at] == D;
        }

        private static int setOfClass(int x) {
            return x < 0 ? 0 : 1 << classAtFirst(x);
        }

        /** Only a text without any other FAULT is asked for its jumps; then they go to STEPS. */
        private void settleJumps() {
            firstStep[lines] = steps.count;
            for (int line = 0; line < lines; line++) {
                int i = firstStep[line];
                if (jumpPlace[line] != NONE && steps.number[i] > lines) {
                    fault = 5;
                    faultPlace = jumpPlace[line];
                    return;
                }
                if (jumpPlace[line] != NONE) {
                    steps.number[i] = firstStep[steps.number[i]];
                }
            }
        }

        private void cutTokens(int length) {
            int count = 0;
            int place = 0;
            for (int cut = 0; cut < MOST_TAPE && place < length; cut++) {
                int behind = endOfToken(place, length);
                if (!isBlank(text[place])) {
                    tokens[count] = tokenAt(place, behind);
                    places[count] = place;
                    numbers[count] = tokens[count] == NUMBER ? numberAt(place, behind) : NONE;
                    count++;
                }
                place = behind;
            }
            tokens[count] = END;
            places[count] = length;
        }

        private int endOfToken(int place, int length) {
            boolean letters = isLetter(text[place]);
            boolean digits = isDigit(text[place]);
            int behind = place + 1;
            while (behind < length && (letters && isLetter(text[behind]) || digits && isDigit(text[behind]))) {
                behind++;
            }
            return behind;
        }

        private int tokenAt(int place, int behind) {
            if (isLetter(text[place])) {
                return wordAt(place, behind);
            }
            if (isDigit(text[place])) {
                return behind - place <= 4 ? NUMBER : BAD;
            }
            return isSign(text[place]) ? text[place] : BAD;
        }

        private int numberAt(int place, int behind) {
            int number = 0;
            for (int i = place; i < behind; i++) {
                number = 10 * number + (text[i] - '0');
            }
            return number;
        }

        private int wordAt(int place, int behind) {
            if (spells("v", place, behind)) return V;
            if (spells("w", place, behind)) return W;
            if (spells("d", place, behind)) return D;
            if (spells("if", place, behind)) return IF;
            if (spells("goto", place, behind)) return GOTO;
            if (spells("out", place, behind)) return OUT;
            if (spells("in", place, behind)) return IN;
            if (spells("call", place, behind)) return CALL;
            if (spells("low", place, behind)) return LOW;
            return spells("high", place, behind) ? HIGH : BAD;
        }

        private boolean spells(String word, int place, int behind) {
            if (behind - place != word.length()) {
                return false;
            }
            for (int i = 0; i < word.length(); i++) {
                if (text[place + i] != word.charAt(i)) {
                    return false;
                }
            }
            return true;
        }

        private static boolean isBlank(int sign) {
            return sign == 32 || sign == 10;
        }

        private static boolean isLetter(int sign) {
            return sign >= 'a' && sign <= 'z' || sign >= 'A' && sign <= 'Z';
        }

        private static boolean isDigit(int sign) {
            return sign >= '0' && sign <= '9';
        }

        private static boolean isSign(int sign) {
            return sign == ';' || sign == '=' || sign == '<' || sign == '+' || sign == '-' || sign == '*';
        }
    }

    /** What is LIVE, what interferes and what it costs, in a row of STEPS. */
    private static final class Graph {
        private final Steps steps;
        final int[] classes;
        private final int words;
        private final long[] live;
        private final long[] edges;
        private final long[] behind;
        private final long[] fresh;
        private final long[] pairs;
        private final long[] ofB;
        private final boolean[] beginsLoop;
        // The VALUES that are THERE; while a ROUND merges them, those that still are nodes.
        final long[] there;
        final int[] weight;
        final int[] cost;
        int k = 0;
        int values = 0;
        // How many words of each row the VALUES of this ROUND take.
        private int inUse = 0;
        private int m = 0;
        private int clobbered = 0;

        Graph(Steps itsSteps, int[] itsClasses) {
            steps = itsSteps;
            classes = itsClasses;
            int mostSteps = itsSteps.kind.length;
            int mostValues = itsClasses.length;
            words = (mostValues + 63) / 64;
            live = new long[(mostSteps + 1) * words];
            edges = new long[mostValues * words];
            behind = new long[words];
            fresh = new long[words];
            pairs = new long[words];
            ofB = new long[words];
            beginsLoop = new boolean[mostSteps];
            there = new long[words];
            weight = new int[mostSteps];
            cost = new int[mostValues];
        }

        void draw(Told told, int itsValues) {
            values = Math.min(itsValues, classes.length);
            inUse = (values + 63) / 64;
            k = told.k;
            m = told.m;
            clobbered = told.clobbered;
            weigh();
            flowBackwards();
            markClasses();
            connectAll();
            countCosts();
        }

        private void weigh() {
            for (int i = 0; i < steps.count; i++) {
                weight[i] = 0;
                beginsLoop[i] = false;
            }
            for (int j = 0; j < steps.count; j++) {
                if (steps.isJump(j) && steps.number[j] <= j) {
                    beginsLoop[steps.number[j]] = true;
                    for (int i = steps.number[j]; i <= j; i++) {
                        weight[i]++;
                    }
                }
            }
            for (int i = 0; i < steps.count; i++) {
                weight[i] = weightOfDepth(weight[i]);
            }
        }

        private static int weightOfDepth(int depth) {
            if (depth == 0) {
                return 1;
            }
            if (depth == 1) {
                return 10;
            }
            return depth == 2 ? 100 : 1000;
        }

        private void flowBackwards() {
            Arrays.fill(live, 0L);
            boolean again = true;
            for (int pass = 0; pass < MOST_PASSES && again; pass++) {
                again = false;
                for (int i = steps.count - 1; i >= 0; i--) {
                    // Only what jumps back to here stands behind it, and was gone through before it.
                    if (updateLive(i) && beginsLoop[i]) {
                        again = true;
                    }
                }
            }
        }

        private boolean updateLive(int i) {
            takeBehind(i);
            if (steps.kind[i] == KIND_CALL) {
                for (int x = 0; x < clobbered; x++) {
                    dropBit(behind, 0, x);
                }
            } else if (steps.made[i] >= 0) {
                dropBit(behind, 0, steps.made[i]);
            }
            if (steps.one[i] >= 0) {
                putBit(behind, 0, steps.one[i]);
            }
            if (steps.two[i] >= 0) {
                putBit(behind, 0, steps.two[i]);
            }
            boolean other = false;
            for (int w = 0; w < inUse; w++) {
                other |= live[i * words + w] != behind[w];
                live[i * words + w] = behind[w];
            }
            return other;
        }

        private void takeBehind(int i) {
            int following = steps.following(i);
            int target = steps.jumpFrom(i);
            for (int w = 0; w < inUse; w++) {
                long here = following < 0 ? 0L : live[following * words + w];
                behind[w] = target < 0 ? here : here | live[target * words + w];
            }
        }

        private void markClasses() {
            Arrays.fill(pairs, 0L);
            Arrays.fill(ofB, 0L);
            for (int x = FIRST_W; x < values; x++) {
                if (classes[x] == CLASS_D) {
                    putBit(pairs, 0, x);
                } else if (classes[x] == CLASS_B) {
                    putBit(ofB, 0, x);
                }
            }
        }

        private void connectAll() {
            Arrays.fill(edges, 0L);
            for (int x = 0; x < k; x++) {
                for (int y = 0; y < x; y++) {
                    connect(x, y);
                }
            }
            for (int i = 0; i < steps.count; i++) {
                takeBehind(i);
                if (steps.kind[i] == KIND_CALL) {
                    for (int x = 0; x < clobbered; x++) {
                        connectBehind(x, x);
                    }
                } else if (steps.made[i] >= 0) {
                    connectBehind(steps.made[i], steps.isMove(i, classes) ? steps.one[i] : steps.made[i]);
                }
            }
        }

        /** Only EDGES that are new are gone through: most are met again and again. */
        private void connectBehind(int made, int moved) {
            boolean makesB = classes[made] == CLASS_B;
            for (int w = 0; w < inUse; w++) {
                long alike = makesB ? ofB[w] : ~ofB[w];
                fresh[w] = behind[w] & alike & ~edges[made * words + w];
            }
            dropBit(fresh, 0, made);
            dropBit(fresh, 0, moved);
            for (int y = nextBit(fresh, 0, values, 0); y < values; y = nextBit(fresh, 0, values, y + 1)) {
                connect(made, y);
            }
        }

        private void connect(int x, int y) {
            putBit(edges, x * words, y);
            putBit(edges, y * words, x);
        }

        private void countCosts() {
            Arrays.fill(cost, 0);
            Arrays.fill(there, 0L);
            for (int x = 0; x < k; x++) {
                putBit(there, 0, x);
            }
            for (int x = FIRST_NEW; x < values; x++) {
                cost[x] = COST_OF_NEW;
            }
            for (int i = 0; i < steps.count; i++) {
                charge(steps.one[i], weight[i]);
                charge(steps.two[i], weight[i]);
                charge(steps.made[i], weight[i]);
                // r0 is charged as what the CALL makes, like any other; the rest comes here.
                for (int x = 1; x < clobbered && steps.kind[i] == KIND_CALL; x++) {
                    charge(x, weight[i]);
                }
            }
        }

        private void charge(int x, int much) {
            if (x >= 0) {
                cost[x] += much;
                putBit(there, 0, x);
            }
        }

        boolean isLive(int i, int x) {
            return hasBit(live, i * words, x);
        }

        boolean isThere(int x) {
            return hasBit(there, 0, x);
        }

        boolean hasEdge(int x, int y) {
            return hasBit(edges, x * words, y);
        }

        /** The first neighbour of x at this number or behind it; as many as there are VALUES if there is none. */
        int nextNear(int x, int from) {
            return nextBit(edges, x * words, values, from);
        }

        int limitOf(int x) {
            if (classes[x] == CLASS_A) {
                return k;
            }
            return classes[x] == CLASS_B ? m : k / 2;
        }

        /** How much a neighbour counts in the DEGREE of a node. */
        int countsFor(int node, int neighbour) {
            return classes[node] == CLASS_A && classes[neighbour] == CLASS_D ? 2 : 1;
        }

        int degreeAmong(int x, long[] among) {
            boolean pairsTwice = classes[x] == CLASS_A;
            int degree = 0;
            for (int w = 0; w < inUse; w++) {
                long near = edges[x * words + w] & among[w];
                degree += Long.bitCount(near);
                if (pairsTwice) {
                    degree += Long.bitCount(near & pairs[w]);
                }
            }
            return degree;
        }

        boolean isHeavy(int x, long[] among) {
            return x < FIRST_V || degreeAmong(x, among) >= limitOf(x);
        }

        void merge(int stays, int goes) {
            for (int x = nextNear(goes, 0); x < values; x = nextNear(goes, x + 1)) {
                dropBit(edges, x * words, goes);
                connect(stays, x);
            }
            for (int w = 0; w < inUse; w++) {
                edges[goes * words + w] = 0L;
            }
            cost[stays] += cost[goes];
            dropBit(there, 0, goes);
        }

        int thereNotFixed() {
            int many = 0;
            for (int x = FIRST_V; x < values; x++) {
                many += asNumber(isThere(x));
            }
            return many;
        }

        int edgesNotFixed() {
            int many = 0;
            for (int x = FIRST_V; x < values; x++) {
                for (int y = 0; y < x; y++) {
                    many += asNumber(hasEdge(x, y));
                }
            }
            return many;
        }

        int heaviest() {
            int most = 0;
            for (int i = 0; i < steps.count; i++) {
                int much = 0;
                for (int x = 0; x < values; x++) {
                    if (isLive(i, x) && classes[x] != CLASS_B) {
                        much += classes[x] == CLASS_D ? 2 : 1;
                    }
                }
                most = Math.max(most, much);
            }
            return most;
        }

        int clashes(int[] painted) {
            int many = 0;
            for (int x = 0; x < COUNT_V; x++) {
                for (int y = 0; y < x; y++) {
                    boolean alike = painted[x] != NONE && painted[x] == painted[y];
                    many += asNumber(alike && hasEdge(FIRST_V + x, FIRST_V + y));
                }
            }
            return many;
        }

        /** FEWEST, or NONE if it is not CHORDAL. */
        int fewestColours() {
            int remaining = vsIn(there, 0);
            int fewest = 0;
            for (int round = 0; round < COUNT_V && remaining != 0; round++) {
                int out = leastSimplicial(remaining);
                if (out == NONE) {
                    return NONE;
                }
                fewest = Math.max(fewest, Integer.bitCount(nearVs(out) & remaining) + 1);
                remaining &= ~(1 << out);
            }
            return fewest;
        }

        private int leastSimplicial(int remaining) {
            for (int v = 0; v < COUNT_V; v++) {
                if ((remaining >>> v & 1) != 0 && isClique(nearVs(v) & remaining)) {
                    return v;
                }
            }
            return NONE;
        }

        private boolean isClique(int vs) {
            for (int v = 0; v < COUNT_V; v++) {
                int others = vs & ~(1 << v);
                if ((vs >>> v & 1) != 0 && (others & ~nearVs(v)) != 0) {
                    return false;
                }
            }
            return true;
        }

        private int nearVs(int v) {
            return vsIn(edges, (FIRST_V + v) * words);
        }

        private static int vsIn(long[] rows, int from) {
            return (int) (rows[from] >>> FIRST_V) & (1 << COUNT_V) - 1;
        }
    }

    /** MERGING: part (b) of a ROUND. */
    private static final class Merger {
        final int[] nodeOf = new int[MOST_VALUES];
        int merged = 0;
        private final int[] moves = new int[MOST_STEPS];
        private int moveCount = 0;
        private final Steps steps;
        private final Graph graph;

        Merger(Steps itsSteps, Graph itsGraph) {
            steps = itsSteps;
            graph = itsGraph;
        }

        void mergeMoves() {
            merged = 0;
            for (int x = 0; x < MOST_VALUES; x++) {
                nodeOf[x] = x < graph.values && graph.isThere(x) ? x : NONE;
            }
            orderMoves();
            boolean again = true;
            for (int pass = 0; pass < MOST_PASSES && again; pass++) {
                again = false;
                for (int at = 0; at < moveCount; at++) {
                    int i = moves[at];
                    if (mergeIfSafe(nodeOf[steps.made[i]], nodeOf[steps.one[i]])) {
                        again = true;
                    }
                }
            }
        }

        private void orderMoves() {
            moveCount = 0;
            for (int weight = 1000; weight > 0; weight /= 10) {
                for (int i = 0; i < steps.count; i++) {
                    if (graph.weight[i] == weight && steps.isMove(i, graph.classes)) {
                        moves[moveCount] = i;
                        moveCount++;
                    }
                }
            }
        }

        private boolean mergeIfSafe(int x, int y) {
            // FIXED numbers are the least of all, so the lesser number is the one that stays.
            int stays = Math.min(x, y);
            int goes = Math.max(x, y);
            if (stays == goes || stays < 0 || goes < FIRST_V || graph.hasEdge(x, y)) {
                return false;
            }
            boolean safe = stays < FIRST_V ? isSafeWithFixed(stays, goes) : isSafe(stays, goes);
            if (safe) {
                graph.merge(stays, goes);
                for (int z = goes; z < graph.values; z++) {
                    if (nodeOf[z] == goes) {
                        nodeOf[z] = stays;
                    }
                }
                merged++;
            }
            return safe;
        }

        private boolean isSafe(int x, int y) {
            int heavy = 0;
            for (int n = graph.nextNear(x, 0); n < graph.values; n = graph.nextNear(x, n + 1)) {
                heavy += heavyThen(n, x, graph.hasEdge(y, n));
            }
            for (int n = graph.nextNear(y, 0); n < graph.values; n = graph.nextNear(y, n + 1)) {
                if (!graph.hasEdge(x, n)) {
                    heavy += heavyThen(n, y, false);
                }
            }
            return heavy < graph.limitOf(x);
        }

        /** What n counts for as a HEAVY neighbour of the merged node; 0 if it would be none. */
        private int heavyThen(int n, int x, boolean ofBoth) {
            int less = ofBoth ? graph.countsFor(n, x) : 0;
            int degree = graph.degreeAmong(n, graph.there) - less;
            boolean heavy = n < FIRST_V || degree >= graph.limitOf(n);
            return heavy ? graph.countsFor(x, n) : 0;
        }

        private boolean isSafeWithFixed(int fixed, int x) {
            for (int n = graph.nextNear(x, FIRST_V); n < graph.values; n = graph.nextNear(x, n + 1)) {
                if (!graph.hasEdge(fixed, n) && graph.isHeavy(n, graph.there)) {
                    return false;
                }
            }
            return true;
        }
    }

    /** LAYING and COLOURING: parts (c) and (d) of a ROUND. */
    private static final class Colourer {
        final int[] register = new int[MOST_VALUES];
        final boolean[] isSpilled = new boolean[MOST_VALUES];
        int spilled = 0;
        int saved = 0;
        private final int[] taken = new int[MOST_VALUES];
        private final boolean[] takenHeavy = new boolean[MOST_VALUES];
        private int takenCount = 0;
        private final long[] remaining;
        // Of each node, as what is left is.
        private final int[] degree = new int[MOST_VALUES];
        private final Graph graph;

        Colourer(Graph itsGraph) {
            graph = itsGraph;
            remaining = new long[itsGraph.words];
        }

        void layAll() {
            System.arraycopy(graph.there, 0, remaining, 0, remaining.length);
            for (int x = nextLeft(FIRST_V); x < graph.values; x = nextLeft(x + 1)) {
                degree[x] = graph.degreeAmong(x, remaining);
            }
            takenCount = 0;
            for (int round = 0; round < MOST_VALUES; round++) {
                int x = leastLight();
                boolean heavy = x == NONE;
                if (heavy) {
                    x = cheapest();
                }
                if (x == NONE) {
                    return;
                }
                takeOut(x);
                taken[takenCount] = x;
                takenHeavy[takenCount] = heavy;
                takenCount++;
            }
        }

        private int nextLeft(int from) {
            return nextBit(remaining, 0, graph.values, from);
        }

        private void takeOut(int x) {
            dropBit(remaining, 0, x);
            for (int n = graph.nextNear(x, FIRST_V); n < graph.values; n = graph.nextNear(x, n + 1)) {
                degree[n] -= graph.countsFor(n, x);
            }
        }

        private int leastLight() {
            for (int x = nextLeft(FIRST_V); x < graph.values; x = nextLeft(x + 1)) {
                if (degree[x] < graph.limitOf(x)) {
                    return x;
                }
            }
            return NONE;
        }

        private int cheapest() {
            int best = NONE;
            for (int x = nextLeft(FIRST_V); x < graph.values; x = nextLeft(x + 1)) {
                if (best == NONE || isCheaper(x, best)) {
                    best = x;
                }
            }
            return best;
        }

        /** Fractions are compared across, so that nothing is rounded. */
        private boolean isCheaper(int x, int than) {
            return (long) graph.cost[x] * degree[than] < (long) graph.cost[than] * degree[x];
        }

        void colourAll() {
            spilled = 0;
            saved = 0;
            for (int x = 0; x < MOST_VALUES; x++) {
                register[x] = x < graph.k ? x : NONE;
                isSpilled[x] = false;
            }
            for (int at = takenCount - 1; at >= 0; at--) {
                int x = taken[at];
                register[x] = leastFree(x);
                isSpilled[x] = register[x] == NONE;
                if (isSpilled[x]) {
                    spilled++;
                } else if (takenHeavy[at]) {
                    saved++;
                }
            }
        }

        private int leastFree(int x) {
            int used = 0;
            for (int n = graph.nextNear(x, 0); n < graph.values; n = graph.nextNear(x, n + 1)) {
                if (register[n] != NONE) {
                    used |= Left.registerBits(graph.classes[n], register[n]);
                }
            }
            int limit = graph.limitOf(x);
            for (int r = 0; r < limit; r++) {
                if ((used & Left.registerBits(graph.classes[x], r)) == 0) {
                    return r;
                }
            }
            return NONE;
        }
    }

    /** What becomes of SPILLED nodes: part (e) of a ROUND. */
    private static final class Spiller {
        private final int[] fate = new int[MOST_VALUES];
        private final int[] fateNumber = new int[MOST_VALUES];
        private final int[] firstNew = new int[MOST_STEPS + 1];
        private final Steps next = new Steps(MOST_STEPS);
        private final Left draft;
        private final Steps steps;
        private final int[] nodeOf;

        Spiller(Left itsDraft, int[] itsNodeOf) {
            draft = itsDraft;
            steps = itsDraft.steps;
            nodeOf = itsNodeOf;
        }

        /** False if there come to be too many STEPS or VALUES. */
        boolean spillAll(Colourer colourer, int[] cost) {
            Arrays.fill(fate, NOT_SPILLED);
            for (int node = FIRST_V; node < draft.values; node++) {
                if (colourer.isSpilled[node]) {
                    decide(node);
                    draft.spilledCost += cost[node];
                }
            }
            for (int x = FIRST_V; x < draft.values; x++) {
                if (fateOf(x) != NOT_SPILLED) {
                    draft.fate[x] = fateOf(x);
                }
            }
            return rewriteAll();
        }

        private int fateOf(int x) {
            return x < 0 || nodeOf[x] < 0 ? NOT_SPILLED : fate[nodeOf[x]];
        }

        private void decide(int node) {
            int number = onlyNumber(node);
            draft.spilled++;
            if (number != NONE) {
                fate[node] = MADE_ANEW;
                fateNumber[node] = number;
                draft.anew++;
            } else {
                fate[node] = INTO_SLOT;
                fateNumber[node] = draft.slots;
                draft.slots++;
            }
        }

        /** The one number that all its makers tell, or NONE. */
        private int onlyNumber(int node) {
            int number = NONE;
            for (int i = 0; i < steps.count; i++) {
                boolean makes = steps.made[i] >= 0 && nodeOf[steps.made[i]] == node;
                if (makes && !isMoveWithin(i)) {
                    boolean other = number != NONE && number != steps.number[i];
                    if (steps.kind[i] != KIND_NUMBER || other) {
                        return NONE;
                    }
                    number = steps.number[i];
                }
            }
            return number;
        }

        private boolean isMoveWithin(int i) {
            return steps.isMove(i, draft.classes) && nodeOf[steps.made[i]] == nodeOf[steps.one[i]];
        }

        private boolean rewriteAll() {
            next.count = 0;
            for (int i = 0; i < steps.count; i++) {
                firstNew[i] = next.count;
                int made = fateOf(steps.made[i]);
                boolean goesOut = made == MADE_ANEW || made == INTO_SLOT && isMoveWithin(i);
                if (!goesOut && !rewriteStep(i)) {
                    return false;
                }
            }
            firstNew[steps.count] = next.count;
            for (int i = 0; i < next.count; i++) {
                if (next.isJump(i)) {
                    next.number[i] = firstNew[next.number[i]];
                }
            }
            steps.takeFrom(next);
            return true;
        }

        private boolean rewriteStep(int i) {
            int one = loaded(steps.one[i]);
            int two = steps.two[i] == steps.one[i] ? one : loaded(steps.two[i]);
            int made = steps.made[i];
            boolean stored = fateOf(made) == INTO_SLOT;
            int makes = stored ? newValue(made) : made;
            if (!next.add(steps.kind[i], makes, one, two, steps.number[i])) {
                return false;
            }
            if (stored && !next.add(KIND_STORE, NONE, makes, NONE, fateNumber[nodeOf[made]])) {
                return false;
            }
            return draft.values <= MOST_VALUES;
        }

        /** What is read in place of x, loaded ahead if its node was SPILLED. */
        private int loaded(int x) {
            int its = fateOf(x);
            if (its == NOT_SPILLED) {
                return x;
            }
            int fresh = newValue(x);
            int kind = its == MADE_ANEW ? KIND_NUMBER : KIND_LOAD;
            // Where there is no room the STEP itself finds none either, and tells so.
            next.add(kind, fresh, NONE, NONE, fateNumber[nodeOf[x]]);
            return fresh;
        }

        /** Beyond the last VALUE the count still goes up by one, which tells that there were too many. */
        private int newValue(int x) {
            int fresh = draft.values;
            if (fresh >= MOST_VALUES) {
                draft.values = MOST_VALUES + 1;
                return MOST_VALUES - 1;
            }
            draft.classes[fresh] = draft.classes[x];
            draft.values++;
            return fresh;
        }
    }

    /** ALLOCATE: ROUND by ROUND till all is coloured, in a draft that is its own. */
    private static final class Allocator {
        final Left draft = new Left();
        private final Graph graph = new Graph(draft.steps, draft.classes);
        private final Merger merger = new Merger(draft.steps, graph);
        private final Colourer colourer = new Colourer(graph);
        private final Spiller spiller = new Spiller(draft, merger.nodeOf);

        int doRounds(Told told) {
            draft.begin(told.code);
            for (int round = 1; round <= MOST_ROUNDS; round++) {
                graph.draw(told, draft.values);
                merger.mergeMoves();
                colourer.layAll();
                colourer.colourAll();
                draft.merged = merger.merged;
                draft.saved += colourer.saved;
                if (colourer.spilled == 0) {
                    draft.rounds = round;
                    keepColours();
                    return round;
                }
                if (!spiller.spillAll(colourer, graph.cost)) {
                    return NONE;
                }
            }
            return NONE;
        }

        private void keepColours() {
            for (int x = 0; x < MOST_VALUES; x++) {
                int node = merger.nodeOf[x];
                draft.node[x] = node;
                draft.register[x] = node < 0 ? NONE : colourer.register[node];
            }
        }
    }

    /** RUNNING: RUN 0 holds VALUES by their numbers, RUN 1 by registers and SLOTS. */
    private static final class Runner {
        boolean atEnd = true;
        int done = 0;
        int outs = 0;
        int outNumber = 0;
        private final long[] held = new long[FIRST_NEW];
        private final int[] registers = new int[REGISTERS];
        private final long[] slots = new long[MOST_VALUES];
        private final Told told;
        private final int[] codeClasses;
        private boolean byRegisters = false;
        private int[] classes;
        private Steps steps;
        private int nextInput = 0;

        Runner(Told itsTold, int[] itsCodeClasses) {
            told = itsTold;
            codeClasses = itsCodeClasses;
            classes = itsCodeClasses;
            steps = itsTold.code;
        }

        void runSteps(boolean ofLeft) {
            byRegisters = ofLeft;
            steps = ofLeft ? told.left.steps : told.code;
            classes = ofLeft ? told.left.classes : codeClasses;
            Arrays.fill(held, 0L);
            Arrays.fill(registers, 0);
            Arrays.fill(slots, 0L);
            done = 0;
            outs = 0;
            outNumber = 0;
            nextInput = 0;
            int at = 0;
            while (at < steps.count && done < MOST_RUN) {
                done++;
                at = doStep(at);
            }
            atEnd = at >= steps.count;
        }

        /** Does one STEP and tells the one that comes next. */
        private int doStep(int i) {
            switch (steps.kind[i]) {
                case KIND_GOTO:
                    return steps.number[i];
                case KIND_IF:
                    return fetch(steps.one[i]) < fetch(steps.two[i]) ? steps.number[i] : i + 1;
                case KIND_OUT:
                    outs++;
                    outNumber = 31 * outNumber + (int) fetch(steps.one[i]);
                    return i + 1;
                case KIND_CALL:
                    doCall();
                    return i + 1;
                case KIND_STORE:
                    slots[steps.number[i]] = fetch(steps.one[i]);
                    return i + 1;
                default:
                    keep(steps.made[i], result(i));
                    return i + 1;
            }
        }

        private long result(int i) {
            long one = fetch(steps.one[i]);
            long two = fetch(steps.two[i]);
            switch (steps.kind[i]) {
                case KIND_NUMBER: return steps.number[i];
                case KIND_IN: return nextOfInput();
                case KIND_COPY: return one;
                case KIND_PLUS: return (int) (one + two);
                case KIND_MINUS: return (int) (one - two);
                case KIND_TIMES: return classes[steps.made[i]] == CLASS_D ? one * two : (int) (one * two);
                case KIND_LOW: return (int) one;
                case KIND_HIGH: return (int) (one >> 32);
                case KIND_LOAD: return slots[steps.number[i]];
                default: return 0;
            }
        }

        private int nextOfInput() {
            if (nextInput >= told.inputs) {
                return 0;
            }
            nextInput++;
            return told.input[nextInput - 1];
        }

        private void doCall() {
            keep(0, (int) (7 * fetch(0) + 3));
            for (int r = 1; r < told.clobbered && byRegisters; r++) {
                registers[r] = 12345 + r;
            }
        }

        private long fetch(int x) {
            if (x < 0) {
                return 0;
            }
            if (!byRegisters) {
                return held[x];
            }
            int first = firstRegister(x);
            if (first < 0) {
                return 0;
            }
            if (classes[x] == CLASS_D) {
                return (long) registers[first + 1] << 32 | registers[first] & 0xFFFFFFFFL;
            }
            return registers[first];
        }

        private void keep(int x, long what) {
            if (!byRegisters) {
                held[x] = what;
                return;
            }
            int first = firstRegister(x);
            if (first < 0) {
                return;
            }
            registers[first] = (int) what;
            if (classes[x] == CLASS_D) {
                registers[first + 1] = (int) (what >> 32);
            }
        }

        private int firstRegister(int x) {
            int its = told.left.registerOf(x);
            if (its < 0 || classes[x] == CLASS_A) {
                return its;
            }
            return classes[x] == CLASS_B ? REGISTERS_A + its : 2 * its;
        }
    }

    /**
     * PROVED. What registers hold of one VALUE never hangs on what they hold of another, so each
     * VALUE is followed for itself: a bit for each register that holds it for sure.
     */
    private static final class Prover {
        private static final int NOT_REACHED = -1;

        private final int[] ahead = new int[MOST_STEPS];
        // The registers that a STEP makes, and those from which a MOVE brings what they held.
        private final int[] to = new int[MOST_STEPS];
        private final int[] from = new int[MOST_STEPS];
        private final boolean[] isRead = new boolean[MOST_VALUES];
        private final Left left;
        private final Steps steps;
        private int clobberedBits = 0;

        Prover(Left itsLeft) {
            left = itsLeft;
            steps = itsLeft.steps;
        }

        boolean holdsEverywhere(int clobbered) {
            clobberedBits = (1 << clobbered) - 1;
            markRegisters();
            markRead();
            for (int x = 0; x < left.values; x++) {
                if (isRead[x] && !holdsWhereRead(x)) {
                    return false;
                }
            }
            return true;
        }

        private void markRegisters() {
            for (int i = 0; i < steps.count; i++) {
                boolean moves = steps.isMove(i, left.classes);
                to[i] = left.registersOf(steps.made[i]);
                from[i] = moves ? left.registersOf(steps.one[i]) : 0;
            }
        }

        private void markRead() {
            for (int x = 0; x < MOST_VALUES; x++) {
                isRead[x] = false;
            }
            for (int i = 0; i < steps.count; i++) {
                if (steps.one[i] >= 0) {
                    isRead[steps.one[i]] = true;
                }
                if (steps.two[i] >= 0) {
                    isRead[steps.two[i]] = true;
                }
            }
        }

        private boolean reads(int i, int x) {
            return steps.one[i] == x || steps.two[i] == x;
        }

        private boolean holdsWhereRead(int x) {
            flowForwards(x);
            int its = left.registersOf(x);
            for (int i = 0; i < steps.count; i++) {
                boolean asked = ahead[i] != NOT_REACHED && reads(i, x);
                if (asked && (its == 0 || (ahead[i] & its) != its)) {
                    return false;
                }
            }
            return true;
        }

        private void flowForwards(int x) {
            Arrays.fill(ahead, NOT_REACHED);
            boolean again = meet(0, (1 << REGISTERS) - 1);
            for (int pass = 0; pass < MOST_PASSES && again; pass++) {
                again = false;
                for (int i = 0; i < steps.count; i++) {
                    if (ahead[i] != NOT_REACHED) {
                        int behind = holdersBehind(i, x);
                        int target = steps.jumpFrom(i);
                        meet(steps.following(i), behind);
                        // What stands behind it in the row this pass comes to yet.
                        again |= target >= 0 && meet(target, behind) && target <= i;
                    }
                }
            }
        }

        /** Brings what one way holds to a STEP; whether that told anything new. */
        private boolean meet(int i, int holders) {
            if (i < 0 || i >= steps.count) {
                return false;
            }
            int before = ahead[i];
            ahead[i] = before == NOT_REACHED ? holders : before & holders;
            return ahead[i] != before;
        }

        private int holdersBehind(int i, int x) {
            int holders = ahead[i];
            if (steps.kind[i] == KIND_CALL) {
                return x == 0 ? 1 : holders & ~clobberedBits;
            }
            if (steps.made[i] == x) {
                return to[i];
            }
            int brought = (holders & from[i]) == 0 ? 0 : broughtBy(from[i], to[i], holders);
            return holders & ~to[i] | brought;
        }

        /** The registers to which a MOVE brings the VALUE; of pairs half by half. */
        private static int broughtBy(int from, int to, int holders) {
            int lowFrom = from & -from;
            int lowTo = to & -to;
            int brought = (holders & lowFrom) != 0 ? lowTo : 0;
            if ((holders & from & ~lowFrom) != 0) {
                brought |= to & ~lowTo;
            }
            return brought;
        }
    }
}
