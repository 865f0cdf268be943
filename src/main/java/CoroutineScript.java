/**
 * A small scripting language with functions as values, variables that functions share, and coroutines.
 *
 * A run is a loop over frames, one frame for each list that is being evaluated. The program outside of all
 * coroutines and each coroutine is a strand with a stack of frames of its own, so that a strand can stand
 * still while another one runs.
 */
public final class CoroutineScript {
    public static final int OK = 0;
    public static final int FAILED = 1;
    public static final int FUEL = 2;
    public static final int INCOMPLETE = 3;

    private static final int ADD = 0;
    private static final int SUB = 1;
    private static final int MUL = 2;
    private static final int LESS = 3;
    private static final int SAME = 4;
    private static final int IF = 5;
    private static final int SEQ = 6;
    private static final int WHILE = 7;
    private static final int LOCAL = 8;
    private static final int SET = 9;
    private static final int FUNC = 10;
    private static final int CALL = 11;
    private static final int RETURN = 12;
    private static final int ERROR = 13;
    private static final int PRINT = 14;
    private static final int CREATE = 15;
    private static final int RESUME = 16;
    private static final int YIELD = 17;
    private static final int STATUS = 18;
    private static final int FAULT = 19;
    private static final int NUMBER_LEAF = 20;
    private static final int NAME_LEAF = 21;

    private static final int NOT_A_NUMBER = 1;
    private static final int WRONG_KIND = 2;
    private static final int WRONG_COUNT = 3;
    private static final int TOO_DEEP = 4;
    private static final int NOT_RESUMABLE = 5;
    private static final int NO_COROUTINE = 6;
    private static final int TOO_MANY = 7;

    private static final int NODES_MOST = 96;
    private static final int OPEN_MOST = 16;
    private static final int NAMES = 8;
    private static final int PARAMETERS_MOST = 3;
    private static final int DEPTH_MOST = 6;
    private static final int FUEL_MOST = 200;
    private static final int FUNCTIONS_MOST = 40;
    private static final int COROUTINES_MOST = 6;
    private static final int VARIABLES_MOST = 120;
    private static final int PRINTED_KEPT = 24;

    // A value is its kind in the upper half of a long and its content in the lower half: equal longs are the same value.
    private static final int KIND_NIL = 0;
    private static final int KIND_NUMBER = 1;
    private static final int KIND_FUNCTION = 2;
    private static final int KIND_COROUTINE = 3;
    private static final long NIL = 0L;
    private static final long ZERO = 4294967296L;
    private static final long CONTENT = 4294967295L;

    private static final long PRINTED_NIL = 4294967296L;
    private static final long PRINTED_FUNCTION = 4294967297L;
    private static final long PRINTED_COROUTINE = 4294967298L;
    private static final long PRINTED_NOTHING = -4294967296L;

    private static final int NONE = -1;

    // Place 0 of the variables is never a variable: as a scope it is the one without any.
    private static final int EMPTY_SCOPE = 0;
    private static final int VARIABLE_PLACES = VARIABLES_MOST + 1;

    // Strand 0 is the program outside of all coroutines, the others are the coroutines.
    private static final int MAIN = 0;
    private static final int STRANDS = COROUTINES_MOST + 1;

    private static final int WAITING = 0;
    private static final int RUNNING = 1;
    private static final int DEAD = 2;

    // A strand needs 106 frames at most: 16 lists inside each other, and 15 more inside the FUNC of each of 6 calls.
    private static final int STACK = 128;
    private static final int FRAMES = STRANDS * STACK;
    private static final int SLOTS = 4;
    private static final int FRAME_SLOTS = FRAMES * SLOTS;

    // The phases of a run that has not ended; the phase of one that has ended is its answer.
    private static final int EVALUATING = -1;
    private static final int CARRYING = -2;

    // Each of the 200 beats, and the start, lets every node be evaluated once at most: some 60000 steps.
    private static final int STEPS_MOST = 1000000;

    private final int depth;
    private final int fuel;

    private final int[] nodeOp = new int[NODES_MOST];
    private final int[] nodeA = new int[NODES_MOST];
    private final int[] nodeB = new int[NODES_MOST];
    private final int[] nodeParts = new int[NODES_MOST];
    private final int[] nodeFirst = new int[NODES_MOST];
    private final int[] nodeLast = new int[NODES_MOST];
    private final int[] nodeNext = new int[NODES_MOST];
    private final int[] openNode = new int[OPEN_MOST];
    private int nodes;
    private int openLists;

    private final int[] functionNode = new int[FUNCTIONS_MOST];
    private final int[] functionScope = new int[FUNCTIONS_MOST];
    private int functions;

    // A scope is the place of its innermost variable; from there variableOuter leads outwards.
    private final int[] variableName = new int[VARIABLE_PLACES];
    private final int[] variableOuter = new int[VARIABLE_PLACES];
    private final long[] variableValue = new long[VARIABLE_PLACES];
    private int variables;

    private final int[] strandState = new int[STRANDS];
    private final int[] strandFunction = new int[STRANDS];
    private final int[] strandResumer = new int[STRANDS];
    private final int[] strandHeight = new int[STRANDS];
    private final int[] strandCalls = new int[STRANDS];
    private int coroutines;
    private int active;

    // A frame of a FUNC is a call in progress: to evaluate the FUNC itself takes no frame.
    private final int[] frameNode = new int[FRAMES];
    private final int[] frameNext = new int[FRAMES];
    private final int[] frameScope = new int[FRAMES];
    private final int[] frameTaken = new int[FRAMES];
    private final long[] frameSlot = new long[FRAME_SLOTS];

    private int phase = INCOMPLETE;
    private long carried;
    private int errorCode;
    private int errorNode = NONE;
    private int fault;
    private int beatsUsed;
    private final long[] printedValue = new long[PRINTED_KEPT];
    private int printedCount;

    public CoroutineScript(int depth, int fuel) {
        this.depth = within(depth, DEPTH_MOST);
        this.fuel = within(fuel, FUEL_MOST);
    }

    public boolean open(int op, int a, int b) {
        if (!hasRoom() || openLists >= OPEN_MOST || !operandsFit(op, a, b)) {
            return false;
        }
        int list = nodes;
        addNode(op, a, b);
        openNode[openLists] = list;
        openLists++;
        return true;
    }

    public boolean num(int v) {
        if (!hasRoom()) {
            return false;
        }
        addNode(NUMBER_LEAF, v, 0);
        countPart();
        return true;
    }

    public boolean name(int n) {
        if (!hasRoom() || !inScope(n)) {
            return false;
        }
        addNode(NAME_LEAF, n, 0);
        countPart();
        return true;
    }

    public boolean close() {
        if (openLists == 0) {
            return false;
        }
        int list = openNode[openLists - 1];
        if (nodeParts[list] < partsNeeded(nodeOp[list])) {
            return false;
        }
        openLists--;
        countPart();
        return true;
    }

    public void drop() {
        nodes = 0;
        openLists = 0;
    }

    public int run() {
        if (!isComplete()) {
            return INCOMPLETE;
        }
        clearRun();
        begin(0, EMPTY_SCOPE);
        for (int step = 0; step < STEPS_MOST && phase < OK; step++) {
            if (phase == CARRYING) {
                deliver();
            } else {
                advance();
            }
        }
        return phase;
    }

    public int kind() {
        return phase == OK ? kindOf(carried) : -1;
    }

    public int value() {
        return phase == OK && isNumber(carried) ? (int) carried : 0;
    }

    public int error() {
        return phase == FAILED ? errorCode : 0;
    }

    public int place() {
        return phase == FAILED ? errorNode : -1;
    }

    public int beats() {
        return beatsUsed;
    }

    public int printed() {
        return printedCount;
    }

    public long output(int k) {
        if (k < 0 || k >= printedCount || k >= PRINTED_KEPT) {
            return PRINTED_NOTHING;
        }
        long value = printedValue[k];
        switch (kindOf(value)) {
            case KIND_NIL:
                return PRINTED_NIL;
            case KIND_FUNCTION:
                return PRINTED_FUNCTION;
            case KIND_COROUTINE:
                return PRINTED_COROUTINE;
            default:
                return (int) value;
        }
    }

    public int made(int what) {
        switch (what) {
            case 0:
                return functions;
            case 1:
                return coroutines;
            case 2:
                return variables;
            default:
                return -1;
        }
    }

    private static int within(int wish, int most) {
        if (wish < 1) {
            return 1;
        }
        return wish > most ? most : wish;
    }

    // ---- building ----

    private boolean isComplete() {
        return nodes > 0 && openLists == 0;
    }

    private boolean hasRoom() {
        if (isComplete() || nodes >= NODES_MOST) {
            return false;
        }
        if (openLists == 0) {
            return true;
        }
        int list = openNode[openLists - 1];
        return nodeParts[list] < partsAllowed(nodeOp[list]);
    }

    private boolean operandsFit(int op, int a, int b) {
        switch (op) {
            case LOCAL:
                return a >= 0 && a < NAMES;
            case SET:
                return inScope(a);
            case FUNC:
                return b >= 0 && b <= PARAMETERS_MOST && a >= 0 && a <= NAMES - b;
            default:
                return op >= ADD && op <= FAULT;
        }
    }

    private static int partsNeeded(int op) {
        switch (op) {
            case ADD:
            case SUB:
            case MUL:
            case LESS:
            case SAME:
            case RESUME:
                return 2;
            case IF:
                return 3;
            case SEQ:
            case FUNC:
            case FAULT:
                return 0;
            default:
                return 1;
        }
    }

    private static int partsAllowed(int op) {
        switch (op) {
            case SEQ:
            case WHILE:
            case LOCAL:
            case FUNC:
                return NODES_MOST;
            case CALL:
                return PARAMETERS_MOST + 1;
            default:
                return partsNeeded(op);
        }
    }

    private boolean inScope(int name) {
        for (int i = 0; i < openLists; i++) {
            if (makesVariable(openNode[i], name)) {
                return true;
            }
        }
        return false;
    }

    private boolean makesVariable(int list, int name) {
        if (nodeOp[list] == FUNC) {
            return name >= nodeA[list] && name < nodeA[list] + nodeB[list];
        }
        return nodeOp[list] == LOCAL && nodeParts[list] > 0 && nodeA[list] == name;
    }

    private void addNode(int op, int a, int b) {
        if (openLists > 0) {
            linkPart(openNode[openLists - 1], nodes);
        }
        nodeOp[nodes] = op;
        nodeA[nodes] = a;
        nodeB[nodes] = b;
        nodeParts[nodes] = 0;
        nodeFirst[nodes] = NONE;
        nodeNext[nodes] = NONE;
        nodes++;
    }

    private void linkPart(int list, int part) {
        if (nodeFirst[list] == NONE) {
            nodeFirst[list] = part;
        } else {
            nodeNext[nodeLast[list]] = part;
        }
        nodeLast[list] = part;
    }

    // A part counts when it has ended: so nodeParts of every open list tells in which of its parts the next node stands.
    private void countPart() {
        if (openLists > 0) {
            nodeParts[openNode[openLists - 1]]++;
        }
    }

    // ---- values ----

    private static long valueOf(int kind, int content) {
        return ((long) kind << 32) | (content & CONTENT);
    }

    private static int kindOf(long value) {
        return (int) (value >>> 32);
    }

    private static boolean isNumber(long value) {
        return kindOf(value) == KIND_NUMBER;
    }

    private static boolean isFalse(long value) {
        return value == NIL || value == ZERO;
    }

    private int newVariable(int name, long value, int outer) {
        variables++;
        variableName[variables] = name;
        variableValue[variables] = value;
        variableOuter[variables] = outer;
        return variables;
    }

    private int findVariable(int name, int scope) {
        int place = scope;
        for (int i = 0; i < VARIABLES_MOST && place != EMPTY_SCOPE && variableName[place] != name; i++) {
            place = variableOuter[place];
        }
        return place;
    }

    // ---- one run ----

    private void clearRun() {
        functions = 0;
        coroutines = 0;
        variables = 0;
        active = MAIN;
        strandHeight[MAIN] = 0;
        strandCalls[MAIN] = 0;
        phase = EVALUATING;
        fault = 0;
        beatsUsed = 0;
        printedCount = 0;
    }

    private void begin(int node, int scope) {
        switch (nodeOp[node]) {
            case NUMBER_LEAF:
                carried = valueOf(KIND_NUMBER, nodeA[node]);
                phase = CARRYING;
                break;
            case NAME_LEAF:
                carried = variableValue[findVariable(nodeA[node], scope)];
                phase = CARRYING;
                break;
            case FUNC:
                makeFunction(node, scope);
                break;
            default:
                push(node, scope);
                break;
        }
    }

    private void makeFunction(int node, int scope) {
        if (functions >= FUNCTIONS_MOST) {
            raise(TOO_MANY, node);
            return;
        }
        functionNode[functions] = node;
        functionScope[functions] = scope;
        carried = valueOf(KIND_FUNCTION, functions);
        phase = CARRYING;
        functions++;
    }

    private void push(int node, int scope) {
        int frame = active * STACK + strandHeight[active];
        strandHeight[active]++;
        frameNode[frame] = node;
        // A WHILE starts as at the end of a round, for each round begins with a beat.
        frameNext[frame] = nodeOp[node] == WHILE ? NONE : nodeFirst[node];
        frameScope[frame] = scope;
        frameTaken[frame] = 0;
        frameSlot[frame * SLOTS] = NIL;
    }

    private int topFrame() {
        return active * STACK + strandHeight[active] - 1;
    }

    private void advance() {
        int frame = topFrame();
        int part = frameNext[frame];
        if (part == NONE) {
            conclude(frame);
        } else {
            frameNext[frame] = nodeNext[part];
            begin(part, frameScope[frame]);
        }
    }

    private void deliver() {
        if (strandHeight[active] > 0) {
            phase = EVALUATING;
            take();
        } else if (active == MAIN) {
            phase = OK;
        } else {
            strandState[active] = DEAD;
            handBack(carried);
        }
    }

    private void take() {
        int frame = topFrame();
        int taken = frameTaken[frame];
        frameTaken[frame]++;
        int slot = frame * SLOTS;
        switch (nodeOp[frameNode[frame]]) {
            case IF:
                takeInIf(frame, taken);
                break;
            case WHILE:
                if (taken == 0 && isFalse(carried)) {
                    finish(NIL);
                }
                break;
            case LOCAL:
                takeInLocal(frame, taken);
                break;
            case SEQ:
            case FUNC:
                frameSlot[slot] = carried;
                break;
            default:
                frameSlot[slot + taken] = carried;
                break;
        }
    }

    private void takeInIf(int frame, int taken) {
        if (taken > 0) {
            frameSlot[frame * SLOTS] = carried;
            frameNext[frame] = NONE;
        } else if (isFalse(carried)) {
            frameNext[frame] = nodeNext[frameNext[frame]];
        }
    }

    private void takeInLocal(int frame, int taken) {
        int node = frameNode[frame];
        if (taken > 0) {
            frameSlot[frame * SLOTS] = carried;
        } else if (variables >= VARIABLES_MOST) {
            raise(TOO_MANY, node);
        } else {
            frameScope[frame] = newVariable(nodeA[node], carried, frameScope[frame]);
        }
    }

    private void finish(long value) {
        strandHeight[active]--;
        carried = value;
        phase = CARRYING;
    }

    private void finishNumber(int number) {
        long value = valueOf(KIND_NUMBER, number);
        finish(value);
    }

    // The resumer's top frame is its RESUME, which ends with the value.
    private void handBack(long value) {
        active = strandResumer[active];
        strandHeight[active]--;
        carried = value;
        phase = CARRYING;
    }

    private void raise(int code, int node) {
        if (active == MAIN) {
            errorCode = code;
            errorNode = node;
            phase = FAILED;
        } else {
            fault = code;
            strandState[active] = DEAD;
            handBack(NIL);
        }
    }

    private boolean beat() {
        if (beatsUsed >= fuel) {
            phase = FUEL;
            return false;
        }
        beatsUsed++;
        return true;
    }

    // ---- the kinds of lists, when their parts have been evaluated ----

    private void conclude(int frame) {
        int op = nodeOp[frameNode[frame]];
        long first = frameSlot[frame * SLOTS];
        switch (op) {
            case SAME:
                finishNumber(first == frameSlot[frame * SLOTS + 1] ? 1 : 0);
                break;
            case IF:
            case SEQ:
            case LOCAL:
                finish(first);
                break;
            case WHILE:
                startRound(frame);
                break;
            case SET:
                concludeSet(frame, first);
                break;
            case FUNC:
                strandCalls[active]--;
                finish(first);
                break;
            case CALL:
                concludeCall(frame, first);
                break;
            case RETURN:
                concludeReturn(first);
                break;
            case ERROR:
                concludeError(frame, first);
                break;
            case PRINT:
                concludePrint(first);
                break;
            case CREATE:
                concludeCreate(frame, first);
                break;
            case RESUME:
                concludeResume(frame, first);
                break;
            case YIELD:
                concludeYield(frame, first);
                break;
            case STATUS:
                concludeStatus(frame, first);
                break;
            case FAULT:
                finishNumber(fault);
                break;
            default:
                concludeArithmetic(frame, first);
                break;
        }
    }

    private void concludeArithmetic(int frame, long first) {
        int node = frameNode[frame];
        long second = frameSlot[frame * SLOTS + 1];
        if (!isNumber(first) || !isNumber(second)) {
            raise(NOT_A_NUMBER, node);
            return;
        }
        int x = (int) first;
        int y = (int) second;
        switch (nodeOp[node]) {
            case ADD:
                finishNumber(x + y);
                break;
            case SUB:
                finishNumber(x - y);
                break;
            case MUL:
                finishNumber(x * y);
                break;
            default:
                finishNumber(x < y ? 1 : 0);
                break;
        }
    }

    private void startRound(int frame) {
        if (beat()) {
            frameNext[frame] = nodeFirst[frameNode[frame]];
            frameTaken[frame] = 0;
        }
    }

    private void concludeSet(int frame, long value) {
        int place = findVariable(nodeA[frameNode[frame]], frameScope[frame]);
        variableValue[place] = value;
        finish(value);
    }

    private void concludeCall(int frame, long callee) {
        int node = frameNode[frame];
        if (kindOf(callee) != KIND_FUNCTION) {
            raise(WRONG_KIND, node);
            return;
        }
        int function = (int) callee;
        int parameters = nodeB[functionNode[function]];
        if (nodeParts[node] - 1 != parameters) {
            raise(WRONG_COUNT, node);
        } else if (strandCalls[active] >= depth) {
            raise(TOO_DEEP, node);
        } else if (variables + parameters > VARIABLES_MOST) {
            raise(TOO_MANY, node);
        } else if (beat()) {
            // The frame of the FUNC takes the place of the CALL's, whose value it gives.
            strandHeight[active]--;
            enter(function, frame);
        }
    }

    // The arguments are in the slots of the CALL or RESUME after the first one.
    private void enter(int function, int argumentFrame) {
        int node = functionNode[function];
        int scope = functionScope[function];
        for (int i = 0; i < nodeB[node] && i < PARAMETERS_MOST; i++) {
            scope = newVariable(nodeA[node] + i, frameSlot[argumentFrame * SLOTS + 1 + i], scope);
        }
        strandCalls[active]++;
        push(node, scope);
    }

    private void concludeReturn(long value) {
        int level = strandHeight[active] - 1;
        while (level > 0 && nodeOp[frameNode[active * STACK + level]] != FUNC) {
            level--;
        }
        if (strandCalls[active] > 0) {
            strandCalls[active]--;
        }
        // Without a call in progress the level is that of the root, and the program ends with it.
        strandHeight[active] = level;
        carried = value;
        phase = CARRYING;
    }

    private void concludeError(int frame, long code) {
        int raised = isNumber(code) ? (int) code : NOT_A_NUMBER;
        raise(raised, frameNode[frame]);
    }

    private void concludePrint(long value) {
        if (printedCount < PRINTED_KEPT) {
            printedValue[printedCount] = value;
        }
        printedCount++;
        finish(value);
    }

    private void concludeCreate(int frame, long callee) {
        int node = frameNode[frame];
        int function = (int) callee;
        if (kindOf(callee) != KIND_FUNCTION || nodeB[functionNode[function]] > 1) {
            raise(WRONG_KIND, node);
            return;
        }
        if (coroutines >= COROUTINES_MOST) {
            raise(TOO_MANY, node);
            return;
        }
        coroutines++;
        strandState[coroutines] = WAITING;
        strandFunction[coroutines] = function;
        strandHeight[coroutines] = 0;
        strandCalls[coroutines] = 0;
        long value = valueOf(KIND_COROUTINE, coroutines);
        finish(value);
    }

    private void concludeResume(int frame, long target) {
        int node = frameNode[frame];
        int strand = (int) target;
        if (kindOf(target) != KIND_COROUTINE) {
            raise(WRONG_KIND, node);
            return;
        }
        if (strandState[strand] != WAITING) {
            raise(NOT_RESUMABLE, node);
            return;
        }
        int function = strandFunction[strand];
        boolean fresh = strandHeight[strand] == 0;
        if (fresh && variables + nodeB[functionNode[function]] > VARIABLES_MOST) {
            raise(TOO_MANY, node);
            return;
        }
        if (!beat()) {
            return;
        }
        strandState[strand] = RUNNING;
        strandResumer[strand] = active;
        active = strand;
        if (fresh) {
            enter(function, frame);
        } else {
            // The top frame of a coroutine that waits is its YIELD.
            finish(frameSlot[frame * SLOTS + 1]);
        }
    }

    private void concludeYield(int frame, long value) {
        if (active == MAIN) {
            raise(NO_COROUTINE, frameNode[frame]);
            return;
        }
        strandState[active] = WAITING;
        handBack(value);
    }

    private void concludeStatus(int frame, long target) {
        if (kindOf(target) != KIND_COROUTINE) {
            raise(WRONG_KIND, frameNode[frame]);
            return;
        }
        finishNumber(strandState[(int) target]);
    }
}
