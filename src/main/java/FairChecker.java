import java.util.Arrays;

/**
 * A checker for small protocols: it explores all states that processes and shared variables can
 * come to, and tells whether one fact always leads to another one in each fair run.
 */
public final class FairChecker {
    private static final int MOST_PROCESSES = 5;
    private static final int MOST_LOCATIONS = 8;
    private static final int MOST_VARIABLES = 4;
    private static final int MOST_VALUE = 9;
    private static final int MOST_MOVES = 16;
    private static final int MOST_HAND = 9;
    private static final int MOST_STATES = 400;
    private static final int MOST_FACTS = 12;

    private static final int GUARD_NONE = 0;
    private static final int GUARD_EQUAL = 1;
    private static final int GUARD_NOT_EQUAL = 2;
    private static final int GUARD_LESS = 3;
    private static final int GUARD_GREATER = 4;

    private static final int DEED_NONE = 0;
    private static final int DEED_BECOME = 1;
    private static final int DEED_ADD = 2;

    private static final int FACT_LOCATION = 0;
    private static final int FACT_VALUE = 1;
    private static final int FACT_AT_MOST = 2;
    private static final int FACT_NOT = 3;
    private static final int FACT_BOTH = 4;
    private static final int FACT_EITHER = 5;

    private static final int FIRST_VALUE = 5;
    private static final int STEPS_OF_STATE = 9;
    private static final int DEPTH_OF_STATE = 10;

    private static final int STEP_PARTS = 5;
    private static final int GREATEST_WAY_INDEX = 400;
    private static final int COUNTS = 6;
    private static final long DIGEST_START = 397L;

    private static final int LOCATION_BITS = 3;
    private static final int LOCATION_MASK = 7;
    private static final int VALUE_BITS = 4;
    private static final int VALUE_MASK = 15;
    private static final int VALUES_START = LOCATION_BITS * MOST_PROCESSES;

    private final Protocol protocol;
    private final StateSpace space;
    private final Facts facts;
    private final Traps traps;

    public FairChecker() {
        protocol = new Protocol();
        space = new StateSpace();
        facts = new Facts();
        traps = new Traps();
    }

    // ---- protocols

    public int addProcess(int locations) throws IllegalArgumentException, IllegalStateException {
        if (!isBetween(locations, 1, MOST_LOCATIONS)) {
            throw new IllegalArgumentException("a process has 1 to 8 locations");
        }
        if (protocol.processes >= MOST_PROCESSES) {
            throw new IllegalStateException("there are 5 processes");
        }
        space.forget();
        return protocol.newProcess(locations);
    }

    public int addVariable(int greatest, int begin) throws IllegalArgumentException, IllegalStateException {
        if (!isBetween(greatest, 1, MOST_VALUE)) {
            throw new IllegalArgumentException("a greatest value is 1 to 9");
        }
        if (!isBetween(begin, 0, greatest)) {
            throw new IllegalArgumentException("a variable begins with 0 to its greatest value");
        }
        if (protocol.variables >= MOST_VARIABLES) {
            throw new IllegalStateException("there are 4 variables");
        }
        space.forget();
        return protocol.newVariable(greatest, begin);
    }

    public int addMove(int process, int from, int to, int hand)
            throws IndexOutOfBoundsException, IllegalArgumentException, IllegalStateException {
        if (!protocol.hasProcess(process)) {
            throw new IndexOutOfBoundsException("no such process");
        }
        if (!protocol.hasLocation(process, from) || !protocol.hasLocation(process, to)) {
            throw new IllegalArgumentException("no such location");
        }
        if (!isBetween(hand, 0, MOST_HAND)) {
            throw new IllegalArgumentException("a hand is 0 to 9");
        }
        if (protocol.movesOf(process) >= MOST_MOVES) {
            throw new IllegalStateException("the process has 16 moves");
        }
        space.forget();
        return protocol.newMove(process, from, to, hand);
    }

    public int guard(int process, int move, int sort, int variable, int number)
            throws IndexOutOfBoundsException, IllegalArgumentException {
        Move found = protocol.find(process, move);
        if (found == null) {
            throw new IndexOutOfBoundsException("no such move");
        }
        if (!isBetween(sort, GUARD_NONE, GUARD_GREATER)) {
            throw new IllegalArgumentException("the sort of a guard is 0 to 4");
        }
        if (sort != GUARD_NONE && !protocol.hasVariable(variable)) {
            throw new IllegalArgumentException("no such variable");
        }
        if (!isBetween(number, 0, MOST_VALUE)) {
            throw new IllegalArgumentException("the number of a guard is 0 to 9");
        }
        space.forget();
        return found.setGuard(sort, variable, number);
    }

    public int deed(int process, int move, int sort, int variable, int number)
            throws IndexOutOfBoundsException, IllegalArgumentException {
        Move found = protocol.find(process, move);
        if (found == null) {
            throw new IndexOutOfBoundsException("no such move");
        }
        if (!isBetween(sort, DEED_NONE, DEED_ADD)) {
            throw new IllegalArgumentException("the sort of a deed is 0 to 2");
        }
        if (sort != DEED_NONE && !protocol.hasVariable(variable)) {
            throw new IllegalArgumentException("no such variable");
        }
        if (!isBetween(number, -MOST_VALUE, MOST_VALUE)) {
            throw new IllegalArgumentException("the number of a deed is -9 to 9");
        }
        space.forget();
        return found.setDeed(sort, variable, number, protocol.greatestOf(variable));
    }

    public int count(int what) throws IndexOutOfBoundsException {
        if (!isBetween(what, 0, COUNTS - 1)) {
            throw new IndexOutOfBoundsException("what is 0 to 5");
        }
        return amount(what);
    }

    // ---- states

    public int explore() throws IllegalStateException {
        if (protocol.processes == 0) {
            throw new IllegalStateException("there is no process");
        }
        traps.forget();
        return space.fill(protocol);
    }

    public int state(int state, int what) throws IndexOutOfBoundsException {
        if (!space.hasState(state)) {
            throw new IndexOutOfBoundsException("no such state");
        }
        if (what == STEPS_OF_STATE) {
            return space.stepsOf(state);
        }
        if (what == DEPTH_OF_STATE) {
            return space.depthOf(state);
        }
        if (protocol.hasProcess(what)) {
            return locationIn(space.keyOf(state), what);
        }
        if (what >= FIRST_VALUE && protocol.hasVariable(what - FIRST_VALUE)) {
            return valueIn(space.keyOf(state), what - FIRST_VALUE);
        }
        throw new IndexOutOfBoundsException("no such process or variable, or what is not 0 to 10");
    }

    public int step(int state, int step, int what) throws IndexOutOfBoundsException {
        if (!space.hasState(state)) {
            throw new IndexOutOfBoundsException("no such state");
        }
        if (!isBetween(step, 0, space.stepsOf(state) - 1)) {
            throw new IndexOutOfBoundsException("no such step");
        }
        if (!isBetween(what, 0, STEP_PARTS - 1)) {
            throw new IndexOutOfBoundsException("what is 0 to 4");
        }
        return StateSpace.partOf(space.packedStep(state, step), what);
    }

    // ---- facts and properties

    public int addFact(int sort, int a, int b) throws IllegalArgumentException, IllegalStateException {
        if (!canBeFact(sort, a, b)) {
            throw new IllegalArgumentException("no such sort, process, variable, fact, location or value");
        }
        if (facts.size >= MOST_FACTS) {
            throw new IllegalStateException("there are 12 facts");
        }
        return facts.newFact(sort, a, b);
    }

    public boolean holds(int fact, int state) throws IndexOutOfBoundsException {
        if (!facts.hasFact(fact)) {
            throw new IndexOutOfBoundsException("no such fact");
        }
        if (!space.hasState(state)) {
            throw new IndexOutOfBoundsException("no such state");
        }
        return facts.isTrueIn(fact, space.keyOf(state));
    }

    public int where(int fact, boolean isFirst) throws IndexOutOfBoundsException, IllegalStateException {
        if (!facts.hasFact(fact)) {
            throw new IndexOutOfBoundsException("no such fact");
        }
        if (!space.isExplored()) {
            throw new IllegalStateException("it is unexplored");
        }
        return isFirst ? firstStateWith(fact) : statesWith(fact);
    }

    public int stuck() throws IllegalStateException {
        if (!space.isExplored()) {
            throw new IllegalStateException("it is unexplored");
        }
        for (int s = 0; s < space.states; s++) {
            if (space.stepsOf(s) == 0) {
                return s;
            }
        }
        return -1;
    }

    public int leads(int p, int q) throws IndexOutOfBoundsException, IllegalStateException {
        if (!facts.hasFact(p) || !facts.hasFact(q)) {
            throw new IndexOutOfBoundsException("no such fact");
        }
        if (!space.isExplored()) {
            throw new IllegalStateException("it is unexplored");
        }
        traps.lookFor(q, space, facts, protocol.processes);
        for (int s = 0; s < space.states; s++) {
            if (traps.isBadState(s) && facts.isTrueIn(p, space.keyOf(s))) {
                return s;
            }
        }
        return -1;
    }

    public boolean isBad(int q, int state) throws IndexOutOfBoundsException {
        if (!facts.hasFact(q)) {
            throw new IndexOutOfBoundsException("no such fact");
        }
        if (!space.hasState(state)) {
            throw new IndexOutOfBoundsException("no such state");
        }
        traps.lookFor(q, space, facts, protocol.processes);
        return traps.isBadState(state);
    }

    public int trapped(int q) throws IndexOutOfBoundsException, IllegalStateException {
        if (!facts.hasFact(q)) {
            throw new IndexOutOfBoundsException("no such fact");
        }
        if (!space.isExplored()) {
            throw new IllegalStateException("it is unexplored");
        }
        traps.lookFor(q, space, facts, protocol.processes);
        return traps.trappedStates;
    }

    public int way(int state, int index, int what) throws IndexOutOfBoundsException {
        if (!space.hasState(state)) {
            throw new IndexOutOfBoundsException("no such state");
        }
        if (!isBetween(index, 0, GREATEST_WAY_INDEX)) {
            throw new IndexOutOfBoundsException("index is 0 to 400");
        }
        if (!isBetween(what, 0, 1)) {
            throw new IndexOutOfBoundsException("what is 0 to 1");
        }
        if (index >= space.depthOf(state)) {
            return -1;
        }
        int next = space.onTheWay(state, index + 1);
        return what == 0 ? space.parentOf(next) : space.parentStepOf(next);
    }

    public double branching() {
        if (!space.isExplored()) {
            return 0.0;
        }
        return (double) space.steps / (double) space.states;
    }

    public long digest() {
        long d = DIGEST_START;
        for (int what = 0; what < COUNTS; what++) {
            d = mixed(d, amount(what));
        }
        for (int s = 0; s < space.states; s++) {
            d = mixedWithState(d, s);
        }
        if (space.isExplored()) {
            for (int f = 0; f < facts.size; f++) {
                d = mixed(d, statesWith(f));
            }
        }
        return d;
    }

    // ---- helpers of the face

    private static boolean isBetween(int number, int least, int most) {
        return number >= least && number <= most;
    }

    private int amount(int what) {
        switch (what) {
            case 0:
                return protocol.processes;
            case 1:
                return protocol.variables;
            case 2:
                return protocol.allMoves();
            case 3:
                return facts.size;
            case 4:
                return space.states;
            default:
                return space.steps;
        }
    }

    private boolean canBeFact(int sort, int a, int b) {
        switch (sort) {
            case FACT_LOCATION:
                return protocol.hasLocation(a, b);
            case FACT_VALUE:
            case FACT_AT_MOST:
                return protocol.hasVariable(a) && isBetween(b, 0, MOST_VALUE);
            case FACT_NOT:
                return facts.hasFact(a) && b == 0;
            case FACT_BOTH:
            case FACT_EITHER:
                return facts.hasFact(a) && facts.hasFact(b);
            default:
                return false;
        }
    }

    private int firstStateWith(int fact) {
        for (int s = 0; s < space.states; s++) {
            if (facts.isTrueIn(fact, space.keyOf(s))) {
                return s;
            }
        }
        return -1;
    }

    private int statesWith(int fact) {
        int found = 0;
        for (int s = 0; s < space.states; s++) {
            if (facts.isTrueIn(fact, space.keyOf(s))) {
                found++;
            }
        }
        return found;
    }

    private long mixedWithState(long start, int state) {
        long d = start;
        int key = space.keyOf(state);
        for (int p = 0; p < protocol.processes; p++) {
            d = mixed(d, locationIn(key, p));
        }
        for (int v = 0; v < protocol.variables; v++) {
            d = mixed(d, valueIn(key, v));
        }
        int steps = space.stepsOf(state);
        d = mixed(d, steps);
        for (int i = 0; i < steps; i++) {
            int packed = space.packedStep(state, i);
            for (int what = 0; what < STEP_PARTS; what++) {
                d = mixed(d, StateSpace.partOf(packed, what));
            }
        }
        return d;
    }

    private static long mixed(long d, int x) {
        return d * 31L + x;
    }

    // ---- the key of a state: all its locations and values in one number that is not negative

    private static int locationIn(int key, int process) {
        return (key >>> (LOCATION_BITS * process)) & LOCATION_MASK;
    }

    private static int withLocation(int key, int process, int location) {
        int shift = LOCATION_BITS * process;
        return (key & ~(LOCATION_MASK << shift)) | (location << shift);
    }

    private static int valueIn(int key, int variable) {
        return (key >>> (VALUES_START + VALUE_BITS * variable)) & VALUE_MASK;
    }

    private static int withValue(int key, int variable, int value) {
        int shift = VALUES_START + VALUE_BITS * variable;
        return (key & ~(VALUE_MASK << shift)) | (value << shift);
    }

    /** A move of a process, with its guard and its deed. */
    private static final class Move {
        private final int process;
        private final int number;
        private final int from;
        private final int to;
        private final int hand;
        private int guardSort;
        private int guardVariable;
        private int guardNumber;
        private int deedSort;
        private int deedVariable;
        private int deedNumber;
        private int deedGreatest;

        Move(int process, int number, int from, int to, int hand) {
            this.process = process;
            this.number = number;
            this.from = from;
            this.to = to;
            this.hand = hand;
        }

        int setGuard(int sort, int variable, int compared) {
            int before = guardSort;
            guardSort = sort;
            guardVariable = variable;
            guardNumber = compared;
            return before;
        }

        int setDeed(int sort, int variable, int change, int greatest) {
            int before = deedSort;
            deedSort = sort;
            deedVariable = variable;
            deedNumber = change;
            deedGreatest = greatest;
            return before;
        }

        boolean isOpenIn(int key) {
            return locationIn(key, process) == from && guardAllows(key) && afterDeed(key) >= 0;
        }

        private boolean guardAllows(int key) {
            switch (guardSort) {
                case GUARD_EQUAL:
                    return valueIn(key, guardVariable) == guardNumber;
                case GUARD_NOT_EQUAL:
                    return valueIn(key, guardVariable) != guardNumber;
                case GUARD_LESS:
                    return valueIn(key, guardVariable) < guardNumber;
                case GUARD_GREATER:
                    return valueIn(key, guardVariable) > guardNumber;
                default:
                    return true;
            }
        }

        /** The key with the deed done, or -1 if the deed leads out of the variable's range. */
        int afterDeed(int key) {
            if (deedSort == DEED_NONE) {
                return key;
            }
            int value = deedSort == DEED_BECOME ? deedNumber : valueIn(key, deedVariable) + deedNumber;
            return isBetween(value, 0, deedGreatest) ? withValue(key, deedVariable, value) : -1;
        }

        int afterGoing(int key) {
            return withLocation(key, process, to);
        }
    }

    /** The processes, the variables and the moves. */
    private static final class Protocol {
        private final int[] locations = new int[MOST_PROCESSES];
        private final int[] moveCounts = new int[MOST_PROCESSES];
        private final Move[] moves = new Move[MOST_PROCESSES * MOST_MOVES];
        private final int[] greatest = new int[MOST_VARIABLES];
        private final int[] begin = new int[MOST_VARIABLES];
        private int processes;
        private int variables;

        boolean hasProcess(int process) {
            return process >= 0 && process < processes;
        }

        boolean hasLocation(int process, int location) {
            return hasProcess(process) && location >= 0 && location < locations[process];
        }

        boolean hasVariable(int variable) {
            return variable >= 0 && variable < variables;
        }

        int greatestOf(int variable) {
            return hasVariable(variable) ? greatest[variable] : 0;
        }

        int movesOf(int process) {
            return hasProcess(process) ? moveCounts[process] : 0;
        }

        int allMoves() {
            int all = 0;
            for (int p = 0; p < processes; p++) {
                all += moveCounts[p];
            }
            return all;
        }

        /** The move, or null if there is no such process or move. */
        Move find(int process, int move) {
            if (move < 0 || move >= movesOf(process)) {
                return null;
            }
            return moves[process * MOST_MOVES + move];
        }

        int newProcess(int locationCount) {
            locations[processes] = locationCount;
            processes++;
            return processes - 1;
        }

        int newVariable(int greatestValue, int beginValue) {
            greatest[variables] = greatestValue;
            begin[variables] = beginValue;
            variables++;
            return variables - 1;
        }

        int newMove(int process, int from, int to, int hand) {
            int number = moveCounts[process];
            moves[process * MOST_MOVES + number] = new Move(process, number, from, to, hand);
            moveCounts[process] = number + 1;
            return number;
        }

        int keyAtBeginning() {
            int key = 0;
            for (int v = 0; v < variables; v++) {
                key = withValue(key, v, begin[v]);
            }
            return key;
        }
    }

    /** All states that were explored, with their steps; no states at all if it is unexplored. */
    private static final class StateSpace {
        // A step is one int, since a protocol may have a million of them.
        private static final int TARGET_MASK = 511;
        private static final int PROCESS_SHIFT = 9;
        private static final int PROCESS_MASK = 7;
        private static final int MOVE_SHIFT = 12;
        private static final int MOVE_MASK = 15;
        private static final int OTHER_SHIFT = 16;
        private static final int OTHER_MOVE_SHIFT = 19;
        private static final int OTHER_MOVE_MASK = 31;

        private static final int SLOTS = 1024;
        private static final int SLOT_SHIFT = 22;
        private static final int SPREAD = 0x9E3779B1;
        private static final int ROOM_AT_FIRST = 2048;
        // No state has more: all moves have one hand, and each two processes pair all of theirs.
        private static final int MOST_STEPS_OF_STATE =
            MOST_PROCESSES * (MOST_PROCESSES - 1) / 2 * MOST_MOVES * MOST_MOVES;
        private static final int MOST_STEPS = MOST_STATES * MOST_STEPS_OF_STATE;

        private final int[] keys = new int[MOST_STATES];
        private final int[] depths = new int[MOST_STATES];
        private final int[] parents = new int[MOST_STATES];
        private final int[] parentSteps = new int[MOST_STATES];
        private final int[] takers = new int[MOST_STATES];
        private final int[] firstSteps = new int[MOST_STATES + 1];
        private final int[] slots = new int[SLOTS];
        private int[] packedSteps = new int[ROOM_AT_FIRST];
        private int states;
        private int steps;
        private boolean isTooLarge;

        boolean isExplored() {
            return states > 0;
        }

        boolean hasState(int state) {
            return state >= 0 && state < states;
        }

        int keyOf(int state) {
            return keys[state];
        }

        int depthOf(int state) {
            return depths[state];
        }

        int parentOf(int state) {
            return parents[state];
        }

        int parentStepOf(int state) {
            return parentSteps[state];
        }

        int stepsOf(int state) {
            return firstSteps[state + 1] - firstSteps[state];
        }

        int packedStep(int state, int step) {
            return packedSteps[firstSteps[state] + step];
        }

        /** The processes that take a step of the state, a bit for each. */
        int takersIn(int state) {
            return takers[state];
        }

        /** The state at this depth on the way to the state, which is not less deep. */
        int onTheWay(int state, int depth) {
            int s = state;
            for (int d = depths[state]; d > depth; d--) {
                s = parents[s];
            }
            return s;
        }

        static int partOf(int packed, int what) {
            switch (what) {
                case 0:
                    return packed & TARGET_MASK;
                case 1:
                    return (packed >>> PROCESS_SHIFT) & PROCESS_MASK;
                case 2:
                    return (packed >>> MOVE_SHIFT) & MOVE_MASK;
                case 3:
                    return ((packed >>> OTHER_SHIFT) & PROCESS_MASK) - 1;
                default:
                    return ((packed >>> OTHER_MOVE_SHIFT) & OTHER_MOVE_MASK) - 1;
            }
        }

        /** The processes that take the step, a bit for each. */
        static int takersOf(int packed) {
            int other = partOf(packed, 3);
            return (1 << partOf(packed, 1)) | (other < 0 ? 0 : 1 << other);
        }

        void forget() {
            states = 0;
            steps = 0;
            isTooLarge = false;
        }

        /** Explores all states; answers how many there are, or -1 if they are too many. */
        int fill(Protocol protocol) {
            forget();
            Arrays.fill(slots, -1);
            int key = protocol.keyAtBeginning();
            newState(key, slotOf(key), 0, 0);
            for (int s = 0; s < states && s < MOST_STATES && !isTooLarge; s++) {
                addStepsOf(s, protocol);
            }
            if (isTooLarge) {
                forget();
                return -1;
            }
            return states;
        }

        private void addStepsOf(int state, Protocol protocol) {
            int key = keys[state];
            takers[state] = 0;
            firstSteps[state] = steps;
            for (int p = 0; p < protocol.processes; p++) {
                for (int m = 0; m < protocol.movesOf(p); m++) {
                    Move move = protocol.find(p, m);
                    if (move != null && move.isOpenIn(key)) {
                        addStepsBy(move, state, protocol);
                    }
                }
            }
            firstSteps[state + 1] = steps;
        }

        private void addStepsBy(Move move, int state, Protocol protocol) {
            int after = move.afterGoing(move.afterDeed(keys[state]));
            if (move.hand == 0) {
                addStep(state, after, packedMover(move));
                return;
            }
            for (int p = move.process + 1; p < protocol.processes; p++) {
                for (int m = 0; m < protocol.movesOf(p); m++) {
                    Move other = protocol.find(p, m);
                    if (other == null || other.hand != move.hand || !other.isOpenIn(keys[state])) {
                        continue;
                    }
                    int afterBoth = other.afterDeed(after);
                    if (afterBoth >= 0) {
                        addStep(state, other.afterGoing(afterBoth), packedMover(move) | packedOther(other));
                    }
                }
            }
        }

        private static int packedMover(Move move) {
            return (move.process << PROCESS_SHIFT) | (move.number << MOVE_SHIFT);
        }

        private static int packedOther(Move other) {
            return ((other.process + 1) << OTHER_SHIFT) | ((other.number + 1) << OTHER_MOVE_SHIFT);
        }

        private void addStep(int state, int after, int packedMovers) {
            int target = numberOf(after, state);
            if (target < 0) {
                isTooLarge = true;
                return;
            }
            if (steps >= packedSteps.length) {
                packedSteps = Arrays.copyOf(packedSteps, Math.min(packedSteps.length * 2, MOST_STEPS));
            }
            packedSteps[steps] = packedMovers | target;
            steps++;
            takers[state] |= takersOf(packedMovers);
        }

        /** The number of the state with this key, a new one if need be; -1 if there are too many. */
        private int numberOf(int key, int parent) {
            int slot = slotOf(key);
            if (slots[slot] >= 0) {
                return slots[slot];
            }
            if (states >= MOST_STATES) {
                return -1;
            }
            newState(key, slot, parent, depths[parent] + 1);
            return states - 1;
        }

        private void newState(int key, int slot, int parent, int depth) {
            keys[states] = key;
            depths[states] = depth;
            parents[states] = parent;
            parentSteps[states] = steps - firstSteps[parent];
            slots[slot] = states;
            states++;
        }

        /** The slot of the key, or the empty one where it belongs. */
        private int slotOf(int key) {
            int slot = (key * SPREAD) >>> SLOT_SHIFT;
            for (int i = 0; i < SLOTS && slots[slot] >= 0 && keys[slots[slot]] != key; i++) {
                slot = (slot + 1) & (SLOTS - 1);
            }
            return slot;
        }
    }

    /** The facts; each one is made of those with smaller numbers. */
    private static final class Facts {
        private final int[] sorts = new int[MOST_FACTS];
        private final int[] firsts = new int[MOST_FACTS];
        private final int[] seconds = new int[MOST_FACTS];
        private int size;

        boolean hasFact(int fact) {
            return fact >= 0 && fact < size;
        }

        int newFact(int sort, int a, int b) {
            sorts[size] = sort;
            firsts[size] = a;
            seconds[size] = b;
            size++;
            return size - 1;
        }

        // All facts up to this one are told upwards, a bit for each: no fact is looked at twice.
        boolean isTrueIn(int fact, int key) {
            int known = 0;
            for (int f = 0; f <= fact && f < size; f++) {
                if (isTrue(f, key, known)) {
                    known |= 1 << f;
                }
            }
            return isKnown(known, fact);
        }

        private boolean isTrue(int fact, int key, int known) {
            int a = firsts[fact];
            int b = seconds[fact];
            switch (sorts[fact]) {
                case FACT_LOCATION:
                    return locationIn(key, a) == b;
                case FACT_VALUE:
                    return valueIn(key, a) == b;
                case FACT_AT_MOST:
                    return valueIn(key, a) <= b;
                case FACT_NOT:
                    return !isKnown(known, a);
                case FACT_BOTH:
                    return isKnown(known, a) && isKnown(known, b);
                default:
                    return isKnown(known, a) || isKnown(known, b);
            }
        }

        private static boolean isKnown(int known, int fact) {
            return ((known >>> fact) & 1) != 0;
        }
    }

    /**
     * The traps and the bad states of one fact q. The greatest sets of states without q, each of
     * which can be come to from each, are found by Tarjan's walk, with a path of its own in place
     * of a recursion; a set is closed behind all others that can be come to from it.
     */
    private static final class Traps {
        private static final int NO_FACT = -1;

        private final boolean[] isWithout = new boolean[MOST_STATES];
        private final boolean[] isWaiting = new boolean[MOST_STATES];
        private final boolean[] isBadHere = new boolean[MOST_STATES];
        private final int[] orders = new int[MOST_STATES];
        private final int[] lowest = new int[MOST_STATES];
        private final int[] nextSteps = new int[MOST_STATES];
        private final int[] path = new int[MOST_STATES];
        private final int[] waiting = new int[MOST_STATES];
        private int pathLength;
        private int waitingCount;
        private int entered;
        private int lookedFor = NO_FACT;
        private int trappedStates;
        private int fairTo;
        private boolean goesToBad;

        void forget() {
            lookedFor = NO_FACT;
        }

        boolean isBadState(int state) {
            return isBadHere[state];
        }

        void lookFor(int q, StateSpace space, Facts facts, int processes) {
            if (q == lookedFor) {
                return;
            }
            begin(q, space, facts);
            int everyProcess = (1 << processes) - 1;
            for (int s = 0; s < space.states; s++) {
                if (isWithout[s] && orders[s] == 0) {
                    walkFrom(s, space, everyProcess);
                }
            }
            lookedFor = q;
        }

        private void begin(int q, StateSpace space, Facts facts) {
            for (int s = 0; s < space.states; s++) {
                isWithout[s] = !facts.isTrueIn(q, space.keyOf(s));
                isWaiting[s] = false;
                isBadHere[s] = false;
                orders[s] = 0;
            }
            pathLength = 0;
            waitingCount = 0;
            entered = 0;
            trappedStates = 0;
        }

        private void walkFrom(int start, StateSpace space, int everyProcess) {
            enter(start);
            // Each turn uses up a step, or leaves a state.
            int turns = space.steps + space.states;
            for (int turn = 0; turn < turns && pathLength > 0; turn++) {
                int state = path[pathLength - 1];
                if (nextSteps[state] < space.stepsOf(state)) {
                    int packed = space.packedStep(state, nextSteps[state]);
                    nextSteps[state]++;
                    follow(state, StateSpace.partOf(packed, 0));
                } else {
                    leave(state);
                    if (lowest[state] == orders[state]) {
                        close(state, space, everyProcess);
                    }
                }
            }
        }

        private void enter(int state) {
            entered++;
            orders[state] = entered;
            lowest[state] = entered;
            nextSteps[state] = 0;
            path[pathLength] = state;
            pathLength++;
            waiting[waitingCount] = state;
            waitingCount++;
            isWaiting[state] = true;
        }

        private void follow(int state, int target) {
            if (!isWithout[target]) {
                return;
            }
            if (orders[target] == 0) {
                enter(target);
            } else if (isWaiting[target]) {
                lowest[state] = Math.min(lowest[state], orders[target]);
            }
        }

        private void leave(int state) {
            pathLength--;
            if (pathLength > 0) {
                int before = path[pathLength - 1];
                lowest[before] = Math.min(lowest[before], lowest[state]);
            }
        }

        /** Closes the set of states that wait from this one on. */
        private void close(int root, StateSpace space, int everyProcess) {
            fairTo = 0;
            goesToBad = false;
            int bottom = waitingCount;
            boolean isRootSeen = false;
            while (bottom > 0 && !isRootSeen) {
                bottom--;
                lookAt(waiting[bottom], space);
                isRootSeen = waiting[bottom] == root;
            }
            // A set without a step of its own passes just if it is a state that has no steps at all.
            boolean isTrap = (fairTo & everyProcess) == everyProcess;
            if (isTrap) {
                trappedStates += waitingCount - bottom;
            }
            for (int i = bottom; i < waitingCount; i++) {
                isWaiting[waiting[i]] = false;
                isBadHere[waiting[i]] = isTrap || goesToBad;
            }
            waitingCount = bottom;
        }

        // A step of the set to a state that waits stays within the set: had it gone to one that
        // waited before the root, the set would not be closed yet.
        private void lookAt(int state, StateSpace space) {
            fairTo |= ~space.takersIn(state);
            int steps = space.stepsOf(state);
            for (int i = 0; i < steps; i++) {
                int packed = space.packedStep(state, i);
                int target = StateSpace.partOf(packed, 0);
                if (isWithout[target] && isWaiting[target]) {
                    fairTo |= StateSpace.takersOf(packed);
                } else if (isWithout[target] && isBadHere[target]) {
                    goesToBad = true;
                }
            }
        }
    }
}
