import java.util.Arrays;

/**
 * A back end: it takes programs of functions in three-address instructions, gives their variables
 * fixed places, makes code for a small processor, and runs that code.
 */
public final class FrameBackEnd {
    private static final int NONE = -1;

    private static final int MOST_FUNCTIONS = 6;
    private static final int MOST_VARIABLES = 6;
    private static final int MOST_IN_FUNCTION = 24;
    private static final int MOST_INSTRUCTIONS = 60;
    private static final int MOST_CODE = 500;
    private static final int MOST_RUN = 1000;
    private static final int MOST_KEPT = 100;
    private static final int GREATEST_CONSTANT = 65535;

    private static final int DATA_SIZE = 128;
    private static final int FRAMES_END = 120;
    private static final int RESULT = 126;

    private static final int BYTE_SIZE = 1;
    private static final int WIDE_SIZE = 2;
    private static final int GREATEST_SIZE = 8;

    private static final int OP_SET = 0;
    private static final int OP_MOVE = 1;
    private static final int OP_ADD = 2;
    private static final int OP_SUB = 3;
    private static final int OP_AND = 4;
    private static final int OP_OR = 5;
    private static final int OP_XOR = 6;
    private static final int OP_DOUBLE = 7;
    private static final int OP_LOAD = 8;
    private static final int OP_STORE = 9;
    private static final int OP_GOTO = 10;
    private static final int OP_ZERO = 11;
    private static final int OP_BELOW = 12;
    private static final int OP_CALL = 13;
    private static final int OP_RETURN = 14;
    private static final int OP_OUT = 15;

    private static final int ANY = 0;
    private static final int SCALAR = 1;
    private static final int BYTE = 2;
    private static final int ARRAY = 3;
    private static final int CONSTANT = 4;

    /** The sorts of the three arguments of each instruction, OP_SET first. */
    private static final int[] SORTS = {
        SCALAR, CONSTANT, ANY,
        SCALAR, SCALAR, ANY,
        SCALAR, SCALAR, SCALAR,
        SCALAR, SCALAR, SCALAR,
        SCALAR, SCALAR, SCALAR,
        SCALAR, SCALAR, SCALAR,
        SCALAR, SCALAR, SCALAR,
        SCALAR, ANY, ANY,
        SCALAR, ARRAY, BYTE,
        ARRAY, BYTE, SCALAR,
        ANY, ANY, ANY,
        SCALAR, ANY, ANY,
        SCALAR, SCALAR, ANY,
        ANY, SCALAR, SCALAR,
        SCALAR, ANY, ANY,
        SCALAR, ANY, ANY
    };

    private static final int LDA = 0;
    private static final int STA = 1;
    private static final int ADC = 2;
    private static final int SBC = 3;
    private static final int AND = 4;
    private static final int ORA = 5;
    private static final int EOR = 6;
    private static final int ASL = 7;
    private static final int ROL = 8;
    private static final int LDX = 9;
    private static final int CMP = 10;
    private static final int CPX = 11;
    private static final int CLC = 12;
    private static final int SEC = 13;
    private static final int BEQ = 14;
    private static final int BNE = 15;
    private static final int BCC = 16;
    private static final int BCS = 17;
    private static final int JMP = 18;
    private static final int JSR = 19;
    private static final int RTS = 20;
    private static final int OUT = 21;
    private static final int TRAP = 22;

    private static final int FORM_ALONE = 0;
    private static final int FORM_CONSTANT = 1;
    private static final int FORM_NEAR = 2;
    private static final int FORM_FAR = 3;
    private static final int FORM_NEAR_X = 4;
    private static final int FORM_FAR_X = 5;
    private static final int FORM_BRANCH = 6;
    private static final int FORM_CODE = 7;

    private static final int NEAR_END = 16;
    private static final int BRANCH_SIZE = 2;
    private static final int JUMP_SIZE = 3;
    private static final int TRAP_SIZE = 1;

    /** A place is an address in the data, or one of these plus a byte: so one int is enough for HELD too. */
    private static final int CONSTANT_PLACE = 256;
    private static final int PLACE_WITH_X = 512;

    private static final int NO_RUN = -1;
    private static final int GOES_ON = 0;
    private static final int ENDED = 1;
    private static final int FAULTED = 2;

    private final Program program;
    private final Frames frames;
    private final Assembler assembler;
    private final Processor processor;
    private boolean hasCode;

    public FrameBackEnd() {
        program = new Program();
        frames = new Frames(program);
        assembler = new Assembler(program, frames);
        processor = new Processor(assembler);
        hasCode = false;
    }

    public int function() {
        return accepted(program.addFunction());
    }

    public int variable(int size) {
        return accepted(program.addVariable(size));
    }

    public int op(int op, int a, int b, int c) {
        return accepted(program.addInstruction(op, a, b, c));
    }

    public int compile() {
        dropCode();
        int fault = faultOfProgram();
        if (fault != 0) {
            return fault;
        }
        assembler.assemble();
        if (assembler.size > MOST_CODE) {
            return 6;
        }
        hasCode = true;
        return 0;
    }

    public int length() {
        return hasCode ? assembler.size : 0;
    }

    public int code(int i) {
        return hasCode && i >= 0 && i < assembler.size ? assembler.bytes[i] : NONE;
    }

    public int longs() {
        return hasCode ? assembler.longCount : 0;
    }

    public int base(int f) {
        return hasCode && program.hasFunction(f) ? frames.bases[f] : NONE;
    }

    public int address(int f, int i) {
        return hasCode && program.hasInstruction(f, i) ? assembler.addresses[program.firsts[f] + i] : NONE;
    }

    public boolean start() {
        if (!hasCode) {
            return false;
        }
        processor.begin();
        return true;
    }

    public int run(int n) {
        if (processor.status == NO_RUN || n < 0 || n > MOST_RUN) {
            return NONE;
        }
        return processor.perform(n);
    }

    public int state() {
        return processor.status;
    }

    public int spent() {
        return processor.stepCount;
    }

    public int next() {
        return processor.label();
    }

    public int depth() {
        return processor.status == GOES_ON ? processor.returnCount + 1 : 0;
    }

    public int value(int v, int i) {
        int label = processor.label();
        if (label == NONE) {
            return NONE;
        }
        int f = label / MOST_IN_FUNCTION;
        if (i < 0 || i >= program.sizeOf(f, v)) {
            return NONE;
        }
        return processor.data[frames.places[f][v] + i];
    }

    public int output(int k) {
        if (k == -1) {
            return processor.outCount;
        }
        return k >= 0 && k < processor.outCount && k < MOST_KEPT ? processor.kept[k] : NONE;
    }

    private int accepted(int number) {
        if (number != NONE) {
            dropCode();
        }
        return number;
    }

    private void dropCode() {
        hasCode = false;
        processor.drop();
    }

    /** The first of the answers 1 to 5 of compile() that holds; 0 if none does. */
    private int faultOfProgram() {
        if (!program.isWhole()) {
            return 1;
        }
        if (!program.hasAllTargets()) {
            return 2;
        }
        if (!program.hasAllCallees()) {
            return 3;
        }
        frames.gatherCalls();
        if (frames.hasRecursion()) {
            return 4;
        }
        frames.findBases();
        if (!frames.fit()) {
            return 5;
        }
        frames.placeVariables();
        return 0;
    }

    /** What the caller has given. Only the latest function grows, so all instructions stand in one row. */
    private static final class Program {
        private final int[][] sizes = new int[MOST_FUNCTIONS][MOST_VARIABLES];
        private final int[] variableCounts = new int[MOST_FUNCTIONS];
        private final int[] firsts = new int[MOST_FUNCTIONS];
        private final int[] counts = new int[MOST_FUNCTIONS];
        private final int[] owners = new int[MOST_INSTRUCTIONS];
        private final int[] ops = new int[MOST_INSTRUCTIONS];
        private final int[] as = new int[MOST_INSTRUCTIONS];
        private final int[] bs = new int[MOST_INSTRUCTIONS];
        private final int[] cs = new int[MOST_INSTRUCTIONS];
        private int functionCount;
        private int total;

        int addFunction() {
            if (functionCount >= MOST_FUNCTIONS) {
                return NONE;
            }
            firsts[functionCount] = total;
            functionCount++;
            return functionCount - 1;
        }

        int addVariable(int size) {
            int f = functionCount - 1;
            if (f < 0 || size < BYTE_SIZE || size > GREATEST_SIZE || variableCounts[f] >= MOST_VARIABLES) {
                return NONE;
            }
            int v = variableCounts[f];
            sizes[f][v] = size;
            variableCounts[f]++;
            return v;
        }

        int addInstruction(int op, int a, int b, int c) {
            int f = functionCount - 1;
            if (f < 0 || counts[f] >= MOST_IN_FUNCTION || total >= MOST_INSTRUCTIONS) {
                return NONE;
            }
            if (op < OP_SET || op > OP_OUT) {
                return NONE;
            }
            if (!suits(SORTS[3 * op], a) || !suits(SORTS[3 * op + 1], b) || !suits(SORTS[3 * op + 2], c)) {
                return NONE;
            }
            owners[total] = f;
            ops[total] = op;
            as[total] = a;
            bs[total] = b;
            cs[total] = c;
            total++;
            counts[f]++;
            return counts[f] - 1;
        }

        private boolean suits(int sort, int argument) {
            int size = sizeOf(functionCount - 1, argument);
            switch (sort) {
                case SCALAR:
                    return isScalar(size);
                case BYTE:
                    return size == BYTE_SIZE;
                case ARRAY:
                    return size > WIDE_SIZE;
                case CONSTANT:
                    return argument >= 0 && argument <= GREATEST_CONSTANT;
                default:
                    return true;
            }
        }

        static boolean isScalar(int size) {
            return size == BYTE_SIZE || size == WIDE_SIZE;
        }

        boolean hasFunction(int f) {
            return f >= 0 && f < functionCount;
        }

        boolean hasInstruction(int f, int i) {
            return hasFunction(f) && i >= 0 && i < counts[f];
        }

        /** 0 if there is no such variable, which is the size of none. */
        int sizeOf(int f, int v) {
            boolean isThere = f >= 0 && f < functionCount && v >= 0 && v < variableCounts[f];
            return isThere ? sizes[f][v] : 0;
        }

        int frameSizeOf(int f) {
            int sum = 0;
            for (int v = 0; v < variableCounts[f]; v++) {
                sum += sizes[f][v];
            }
            return sum;
        }

        boolean hasTarget(int k) {
            return ops[k] == OP_GOTO || ops[k] == OP_ZERO || ops[k] == OP_BELOW;
        }

        int targetOf(int k) {
            if (ops[k] == OP_GOTO) {
                return as[k];
            }
            return ops[k] == OP_ZERO ? bs[k] : cs[k];
        }

        /** Where the target stands in the row of all instructions. */
        int goalOf(int k) {
            return firsts[owners[k]] + targetOf(k);
        }

        boolean isWhole() {
            for (int f = 0; f < functionCount; f++) {
                if (counts[f] == 0) {
                    return false;
                }
                int last = ops[firsts[f] + counts[f] - 1];
                if (last != OP_GOTO && last != OP_RETURN) {
                    return false;
                }
            }
            return functionCount > 0;
        }

        boolean hasAllTargets() {
            for (int k = 0; k < total; k++) {
                if (hasTarget(k) && !hasInstruction(owners[k], targetOf(k))) {
                    return false;
                }
            }
            return true;
        }

        boolean hasAllCallees() {
            for (int k = 0; k < total; k++) {
                if (ops[k] == OP_CALL && !hasFunction(as[k])) {
                    return false;
                }
            }
            return true;
        }
    }

    /** Who calls whom, and where the frames lie by that. */
    private static final class Frames {
        private final Program program;
        private final boolean[] calls = new boolean[MOST_FUNCTIONS * MOST_FUNCTIONS];
        private final boolean[] reaches = new boolean[MOST_FUNCTIONS * MOST_FUNCTIONS];
        private final int[] bases = new int[MOST_FUNCTIONS];
        private final int[][] places = new int[MOST_FUNCTIONS][MOST_VARIABLES];

        Frames(Program program) {
            this.program = program;
        }

        /** Only for programs whose callees are all there. */
        void gatherCalls() {
            for (int pair = 0; pair < calls.length; pair++) {
                calls[pair] = false;
            }
            for (int k = 0; k < program.total; k++) {
                if (program.ops[k] == OP_CALL) {
                    calls[MOST_FUNCTIONS * program.owners[k] + program.as[k]] = true;
                }
            }
        }

        boolean hasRecursion() {
            closeCalls();
            for (int f = 0; f < MOST_FUNCTIONS; f++) {
                if (reaches[MOST_FUNCTIONS * f + f]) {
                    return true;
                }
            }
            return false;
        }

        private void closeCalls() {
            for (int pair = 0; pair < calls.length; pair++) {
                reaches[pair] = calls[pair];
            }
            for (int between = 0; between < MOST_FUNCTIONS; between++) {
                for (int f = 0; f < MOST_FUNCTIONS; f++) {
                    for (int g = 0; g < MOST_FUNCTIONS; g++) {
                        boolean through = reaches[MOST_FUNCTIONS * f + between]
                                && reaches[MOST_FUNCTIONS * between + g];
                        reaches[MOST_FUNCTIONS * f + g] = reaches[MOST_FUNCTIONS * f + g] || through;
                    }
                }
            }
        }

        /** Without recursion no chain of calls is longer than the functions are many, so as many rounds settle all. */
        void findBases() {
            Arrays.fill(bases, 0);
            for (int round = 0; round < MOST_FUNCTIONS; round++) {
                for (int f = 0; f < program.functionCount; f++) {
                    pushCallees(f);
                }
            }
        }

        /** Function 0 is passed over: its base is 0 even if a function that never runs calls it. */
        private void pushCallees(int f) {
            for (int g = 1; g < MOST_FUNCTIONS; g++) {
                if (calls[MOST_FUNCTIONS * f + g]) {
                    bases[g] = Math.max(bases[g], endOf(f));
                }
            }
        }

        private int endOf(int f) {
            return bases[f] + program.frameSizeOf(f);
        }

        boolean fit() {
            for (int f = 0; f < program.functionCount; f++) {
                if (endOf(f) > FRAMES_END) {
                    return false;
                }
            }
            return true;
        }

        void placeVariables() {
            for (int f = 0; f < program.functionCount; f++) {
                int place = bases[f];
                for (int v = 0; v < program.variableCounts[f]; v++) {
                    places[f][v] = place;
                    place += program.sizes[f][v];
                }
            }
        }
    }

    /** Makes the code of a program that has no fault. */
    private static final class Assembler {
        private static final int NOTHING = -1;

        private final Program program;
        private final Frames frames;
        private final int[] bytes = new int[MOST_CODE];
        /** 24 * function + instruction where an instruction of the program begins, NONE elsewhere. */
        private final int[] labels = new int[MOST_CODE];
        private final int[] addresses = new int[MOST_INSTRUCTIONS];
        private final int[] branchAddresses = new int[MOST_INSTRUCTIONS];
        private final boolean[] isTarget = new boolean[MOST_INSTRUCTIONS];
        private final boolean[] isLong = new boolean[MOST_INSTRUCTIONS];
        private int size;
        private int longCount;
        private int held;
        private int current;

        Assembler(Program program, Frames frames) {
            this.program = program;
            this.frames = frames;
        }

        /**
         * Begins with all branches short and makes long only those that can't reach: lengthening never brings
         * a target nearer, so each of them is long in every right code, and as few as possible are long.
         */
        void assemble() {
            markTargets();
            longCount = 0;
            boolean moved = true;
            for (int pass = 0; pass <= MOST_INSTRUCTIONS && moved; pass++) {
                emitProgram();
                moved = lengthenBranches();
            }
            // The last pass still wrote the addresses of the one before it where it looked ahead.
            emitProgram();
            markLabels();
        }

        private void markTargets() {
            for (int k = 0; k < MOST_INSTRUCTIONS; k++) {
                isTarget[k] = false;
                isLong[k] = false;
            }
            for (int k = 0; k < program.total; k++) {
                if (program.hasTarget(k)) {
                    isTarget[program.goalOf(k)] = true;
                }
            }
        }

        private boolean lengthenBranches() {
            int before = longCount;
            for (int k = 0; k < program.total; k++) {
                boolean branches = program.ops[k] == OP_ZERO || program.ops[k] == OP_BELOW;
                if (branches && !isLong[k] && !reachesGoal(k)) {
                    isLong[k] = true;
                    longCount++;
                }
            }
            return longCount > before;
        }

        private boolean reachesGoal(int k) {
            int behind = branchAddresses[k] + BRANCH_SIZE;
            int distance = addresses[program.goalOf(k)] - behind;
            return distance >= -128 && distance <= 127;
        }

        private void markLabels() {
            Arrays.fill(labels, NONE);
            for (int k = 0; k < program.total; k++) {
                int f = program.owners[k];
                if (addresses[k] < MOST_CODE) {
                    labels[addresses[k]] = MOST_IN_FUNCTION * f + k - program.firsts[f];
                }
            }
        }

        private void emitProgram() {
            size = 0;
            for (int k = 0; k < program.total; k++) {
                current = program.owners[k];
                if (k == program.firsts[current] || isTarget[k]) {
                    held = NOTHING;
                }
                addresses[k] = size;
                emitInstruction(k, program.as[k], program.bs[k], program.cs[k]);
            }
        }

        private void emitInstruction(int k, int a, int b, int c) {
            switch (program.ops[k]) {
                case OP_SET:
                    emitSet(a, b);
                    break;
                case OP_MOVE:
                    emitMove(a, b);
                    break;
                case OP_ADD:
                    emitAlone(CLC);
                    emitCombine(ADC, a, b, c);
                    break;
                case OP_SUB:
                    emitAlone(SEC);
                    emitCombine(SBC, a, b, c);
                    break;
                case OP_AND:
                    emitCombine(AND, a, b, c);
                    break;
                case OP_OR:
                    emitCombine(ORA, a, b, c);
                    break;
                case OP_XOR:
                    emitCombine(EOR, a, b, c);
                    break;
                case OP_DOUBLE:
                    emitDouble(a);
                    break;
                case OP_LOAD:
                    emitIndex(b, c);
                    emitLoad(a, b);
                    break;
                case OP_STORE:
                    emitIndex(a, b);
                    emitStore(a, c);
                    break;
                case OP_GOTO:
                    emitJump(JMP, addresses[program.goalOf(k)]);
                    break;
                case OP_ZERO:
                    emitZero(a);
                    emitBranch(BEQ, k);
                    break;
                case OP_BELOW:
                    emitBelow(a, b);
                    emitBranch(BCC, k);
                    break;
                case OP_CALL:
                    emitCall(a, b, c);
                    break;
                case OP_RETURN:
                    emitReturn(a);
                    break;
                default:
                    emitOut(a);
            }
        }

        private void emitSet(int a, int constant) {
            for (int i = 0; i < program.sizeOf(current, a); i++) {
                emit(LDA, CONSTANT_PLACE + ((constant >> (8 * i)) & 255));
                emit(STA, part(a, i));
            }
        }

        private void emitMove(int a, int b) {
            for (int i = 0; i < program.sizeOf(current, a); i++) {
                emit(LDA, part(b, i));
                emit(STA, part(a, i));
            }
        }

        private void emitCombine(int number, int a, int b, int c) {
            for (int i = 0; i < program.sizeOf(current, a); i++) {
                emit(LDA, part(b, i));
                emit(number, part(c, i));
                emit(STA, part(a, i));
            }
        }

        private void emitDouble(int a) {
            emit(ASL, part(a, 0));
            if (isWide(a)) {
                emit(ROL, part(a, 1));
            }
        }

        private void emitLoad(int a, int t) {
            emit(LDA, PLACE_WITH_X + frames.places[current][t]);
            emit(STA, part(a, 0));
            if (isWide(a)) {
                emit(LDA, CONSTANT_PLACE);
                emit(STA, part(a, 1));
            }
        }

        private void emitStore(int t, int c) {
            emit(LDA, part(c, 0));
            emit(STA, PLACE_WITH_X + frames.places[current][t]);
        }

        private void emitIndex(int t, int b) {
            emit(LDX, part(b, 0));
            emit(CPX, CONSTANT_PLACE + program.sizeOf(current, t));
            put(8 * BCC + FORM_BRANCH);
            put(TRAP_SIZE);
            emitAlone(TRAP);
        }

        private void emitZero(int a) {
            if (isWide(a)) {
                emit(LDA, part(a, 0));
                emit(ORA, part(a, 1));
            } else {
                // The branch asks Z, which only an LDA that is there sets.
                held = NOTHING;
                emit(LDA, part(a, 0));
            }
        }

        private void emitBelow(int a, int b) {
            emit(LDA, part(a, 0));
            emit(CMP, part(b, 0));
            if (isWide(a) || isWide(b)) {
                emit(LDA, part(a, 1));
                emit(SBC, part(b, 1));
            }
        }

        private void emitCall(int f, int a, int b) {
            int parameterSize = program.sizeOf(f, 0);
            if (Program.isScalar(parameterSize)) {
                for (int i = 0; i < parameterSize; i++) {
                    emit(LDA, part(a, i));
                    emit(STA, frames.places[f][0] + i);
                }
            }
            emitJump(JSR, addresses[program.firsts[f]]);
            held = NOTHING;
            for (int i = 0; i < program.sizeOf(current, b); i++) {
                emit(LDA, RESULT + i);
                emit(STA, part(b, i));
            }
        }

        private void emitReturn(int a) {
            for (int i = 0; i < WIDE_SIZE; i++) {
                emit(LDA, part(a, i));
                emit(STA, RESULT + i);
            }
            emitAlone(RTS);
        }

        private void emitOut(int a) {
            for (int i = 0; i < program.sizeOf(current, a); i++) {
                emit(LDA, part(a, i));
                emitAlone(OUT);
            }
        }

        private boolean isWide(int v) {
            return program.sizeOf(current, v) == WIDE_SIZE;
        }

        private int part(int v, int i) {
            return i < program.sizeOf(current, v) ? frames.places[current][v] + i : CONSTANT_PLACE;
        }

        private void emit(int number, int place) {
            if (number == LDA && place == held) {
                return;
            }
            int form = formOf(place);
            put(8 * number + form);
            put(place & 255);
            if (form == FORM_FAR || form == FORM_FAR_X) {
                put(0);
            }
            held = heldBehind(number, place);
        }

        private static int formOf(int place) {
            if (place >= PLACE_WITH_X) {
                return place < PLACE_WITH_X + NEAR_END ? FORM_NEAR_X : FORM_FAR_X;
            }
            if (place >= CONSTANT_PLACE) {
                return FORM_CONSTANT;
            }
            return place < NEAR_END ? FORM_NEAR : FORM_FAR;
        }

        private int heldBehind(int number, int place) {
            switch (number) {
                case LDA:
                    return place < PLACE_WITH_X ? place : NOTHING;
                case STA:
                    return place < PLACE_WITH_X ? place : held;
                case ADC:
                case SBC:
                case AND:
                case ORA:
                case EOR:
                    return NOTHING;
                case ASL:
                case ROL:
                    return place == held ? NOTHING : held;
                default:
                    return held;
            }
        }

        private void emitAlone(int number) {
            put(8 * number + FORM_ALONE);
        }

        private void emitJump(int number, int goal) {
            put(8 * number + FORM_CODE);
            put(goal & 255);
            put(goal >> 8);
        }

        private void emitBranch(int number, int k) {
            int goal = addresses[program.goalOf(k)];
            branchAddresses[k] = size;
            if (isLong[k]) {
                put(8 * opposite(number) + FORM_BRANCH);
                put(JUMP_SIZE);
                emitJump(JMP, goal);
            } else {
                put(8 * number + FORM_BRANCH);
                put((goal - (branchAddresses[k] + BRANCH_SIZE)) & 255);
            }
        }

        private static int opposite(int number) {
            return number == BEQ ? BNE : BCS;
        }

        /** Code that is too long is measured to its end but not kept. */
        private void put(int one) {
            if (size < MOST_CODE) {
                bytes[size] = one;
            }
            size++;
        }
    }

    /** The processor, with the run that it does. */
    private static final class Processor {
        /** Far above the processor's instructions that one instruction of a program can take. */
        private static final int MOST_STEPS = 64;

        private final Assembler assembler;
        private final int[] data = new int[DATA_SIZE];
        private final int[] kept = new int[MOST_KEPT];
        private final int[] returns = new int[MOST_FUNCTIONS];
        private int returnCount;
        private int status = NO_RUN;
        private int stepCount;
        private int outCount;
        private int at;
        private int a;
        private int x;
        private int carry;
        private boolean zero;

        Processor(Assembler assembler) {
            this.assembler = assembler;
        }

        void drop() {
            status = NO_RUN;
            stepCount = 0;
            outCount = 0;
        }

        void begin() {
            Arrays.fill(data, 0);
            status = GOES_ON;
            stepCount = 0;
            outCount = 0;
            returnCount = 0;
            at = 0;
            a = 0;
            x = 0;
            carry = 0;
            zero = false;
        }

        int label() {
            return status == GOES_ON ? labelHere() : NONE;
        }

        private int labelHere() {
            return at >= 0 && at < MOST_CODE ? assembler.labels[at] : NONE;
        }

        int perform(int n) {
            int done = 0;
            while (done < n && status == GOES_ON) {
                performOne();
                done++;
            }
            return done;
        }

        /** Behind an RTS the rest of the CALL has no label, so it is done together with the RETURN. */
        private void performOne() {
            boolean inside = true;
            for (int steps = 0; steps < MOST_STEPS && inside; steps++) {
                step();
                inside = status == GOES_ON && labelHere() == NONE;
            }
        }

        private void step() {
            int first = fetch();
            int number = first >> 3;
            int form = first & 7;
            stepCount++;
            if (number <= CPX) {
                doWithData(number, form);
            } else if (form == FORM_BRANCH) {
                doBranch(number);
            } else if (form == FORM_CODE) {
                doJump(number);
            } else {
                doAlone(number);
            }
        }

        private int fetch() {
            int here = at;
            at++;
            return here >= 0 && here < MOST_CODE ? assembler.bytes[here] : 8 * TRAP;
        }

        /** The constant, or the address of m. */
        private int fetchOperand(int form) {
            int operand = fetch();
            if (form == FORM_FAR || form == FORM_FAR_X) {
                operand += 256 * fetch();
            }
            return form == FORM_NEAR_X || form == FORM_FAR_X ? operand + x : operand;
        }

        private int read(int address) {
            return address >= 0 && address < DATA_SIZE ? data[address] : 0;
        }

        private void write(int address, int one) {
            if (address >= 0 && address < DATA_SIZE) {
                data[address] = one;
            }
        }

        private void doWithData(int number, int form) {
            int operand = fetchOperand(form);
            int m = form == FORM_CONSTANT ? operand : read(operand);
            switch (number) {
                case LDA:
                    setA(m);
                    break;
                case STA:
                    write(operand, a);
                    break;
                case ADC:
                    add(m);
                    break;
                case SBC:
                    // A - m - 1 + C is A + (255 - m) + C less 256, and it borrows where that has no carry.
                    add(255 - m);
                    break;
                case AND:
                    setA(a & m);
                    break;
                case ORA:
                    setA(a | m);
                    break;
                case EOR:
                    setA(a ^ m);
                    break;
                case ASL:
                    shift(operand, 2 * m);
                    break;
                case ROL:
                    shift(operand, 2 * m + carry);
                    break;
                case LDX:
                    x = m;
                    zero = m == 0;
                    break;
                case CMP:
                    compare(a, m);
                    break;
                default:
                    compare(x, m);
            }
        }

        private void setA(int one) {
            a = one;
            zero = one == 0;
        }

        private void add(int m) {
            int sum = a + m + carry;
            carry = sum >> 8;
            setA(sum & 255);
        }

        private void shift(int address, int doubled) {
            carry = doubled >> 8;
            write(address, doubled & 255);
            zero = (doubled & 255) == 0;
        }

        private void compare(int left, int right) {
            carry = left >= right ? 1 : 0;
            zero = left == right;
        }

        private void doBranch(int number) {
            int distance = fetch();
            if (branches(number)) {
                at += distance < 128 ? distance : distance - 256;
            }
        }

        private boolean branches(int number) {
            switch (number) {
                case BEQ:
                    return zero;
                case BNE:
                    return !zero;
                case BCC:
                    return carry == 0;
                default:
                    return carry == 1;
            }
        }

        private void doJump(int number) {
            int low = fetch();
            int goal = low + 256 * fetch();
            if (number == JSR && returnCount < MOST_FUNCTIONS) {
                returns[returnCount] = at;
                returnCount++;
            }
            at = goal;
        }

        private void doAlone(int number) {
            switch (number) {
                case CLC:
                    carry = 0;
                    break;
                case SEC:
                    carry = 1;
                    break;
                case RTS:
                    doReturn();
                    break;
                case OUT:
                    putOut();
                    break;
                default:
                    status = FAULTED;
            }
        }

        private void doReturn() {
            if (returnCount == 0) {
                status = ENDED;
            } else {
                returnCount--;
                at = returns[returnCount];
            }
        }

        private void putOut() {
            if (outCount < MOST_KEPT) {
                kept[outCount] = a;
            }
            outCount++;
        }
    }
}
