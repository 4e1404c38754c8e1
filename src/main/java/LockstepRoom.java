import java.util.Arrays;

/**
 * A room whose members execute the same commands turn by turn and should end alike: faults, checksums of
 * parts, halving to the first turn and the first cell that are wrong, votes, healing by donors, members who
 * join later.
 *
 * <p>Every row that a call needs is made with the object and used again: no call makes an object of its own,
 * but for the exceptions that the document asks for.
 */
public final class LockstepRoom {
    public static final int PUT = 0, ADD = 1, COPY = 2, SUM = 3, SWAP = 4, MUL = 5;
    public static final int LAG = 0, QUORUM = 1;
    public static final int NOT_FOUND = -1;
    public static final int BAD_VALUE = -2;
    public static final int FULL = -3;
    public static final int NOT_ALLOWED = -4;
    public static final int SYNTAX_ERROR = -11, RANGE_ERROR = -12, NAME_ERROR = -13, DUPLICATE_ERROR = -14, COUNT_ERROR = -15;

    private static final int MEMBER_LIMIT = 6;
    private static final int CELL_COUNT = 16;
    private static final int ALL_CELLS = 0xFFFF;
    private static final int CELL_MODULUS = 10000;
    private static final int GREATEST_NUMBER = 9999;
    private static final int GREATEST_PACE = 4;
    private static final int TURN_LIMIT = 40;
    private static final int COMMAND_LIMIT = 8;
    private static final int FAULT_LIMIT = 10;
    private static final int CHANGE_LIMIT = 10;
    private static final int SETTING_COUNT = 2;
    private static final int INPUT_LIMIT = 900;
    private static final int NAME_LETTERS = 6;
    /** A command and a fault are four numbers each. */
    private static final int WIDTH = 4;

    private State state = new State();
    private Script script = new Script();

    /** The states ahead of the latest changes, in a ring; the script needs no copies (see Script). */
    private final State[] earlier = new State[CHANGE_LIMIT];
    private int latest = 0;
    private int kept = 0;

    private final Loader loader = new Loader();
    private int inputSize = 0;
    private int errorAt = NOT_FOUND;
    private final StringBuilder output = new StringBuilder();

    private final Descent descent = new Descent();
    private final int[] trial = new int[CELL_COUNT];

    public LockstepRoom() {
        for (int k = 0; k < CHANGE_LIMIT; k++) {
            earlier[k] = new State();
        }
    }

    // ---- buffers and load

    public int feed(int a, int b, int c, int d, int e) {
        if (inputSize + 20 > INPUT_LIMIT) {
            return FULL;
        }
        appendBytes(a);
        appendBytes(b);
        appendBytes(c);
        appendBytes(d);
        appendBytes(e);
        return inputSize;
    }

    private void appendBytes(int four) {
        for (int shift = 24; shift >= 0 && inputSize < INPUT_LIMIT; shift -= 8) {
            loader.text[inputSize] = (byte) (four >>> shift);
            inputSize++;
        }
    }

    public int load(int length) {
        if (!isIn(length, 0, inputSize)) {
            return BAD_VALUE;
        }
        inputSize = 0;
        int statements = loader.readText(length);
        errorAt = loader.errorAt;
        if (statements < 0) {
            return statements;
        }
        takeOverRead();
        beginAll();
        kept = 0;
        return statements;
    }

    /** The room that was read and the one of before change places: the latter's rows serve the next text. */
    private void takeOverRead() {
        State oldState = state;
        Script oldScript = script;
        state = loader.state;
        script = loader.script;
        loader.state = oldState;
        loader.script = oldScript;
    }

    /** The start may stand behind the members in a text, so their cells are set when all of it is read. */
    private void beginAll() {
        int root = descent.rootOf(script.start);
        for (int m = 0; m < state.memberCount; m++) {
            Member member = state.members[m];
            System.arraycopy(script.start, 0, member.cells, 0, CELL_COUNT);
            member.roots[0] = root;
        }
    }

    public int errorPosition() {
        return errorAt;
    }

    public int write(int member) throws IndexOutOfBoundsException {
        Member written = memberAt(member);
        output.setLength(0);
        if (written.name == 0) {
            output.append('*');
        } else {
            appendName(written.name);
        }
        output.append(':');
        for (int c = 0; c < CELL_COUNT; c++) {
            output.append(' ');
            output.append(written.cells[c]);
        }
        return output.length();
    }

    private void appendName(int letters) {
        for (int k = 0; k < NAME_LETTERS; k++) {
            int letter = (letters >>> letterShift(k)) & 31;
            if (letter != 0) {
                output.append((char) ('a' + letter - 1));
            }
        }
    }

    public int outputAt(int index) {
        if (!isIn(index, 0, output.length() - 1)) {
            return NOT_FOUND;
        }
        return output.charAt(index);
    }

    // ---- what is in the room

    public int count(int what) {
        switch (what) {
            case 0:
                return state.memberCount;
            case 1:
                return state.sealedTurns;
            case 2:
                return state.openCommands;
            case 3:
                return state.faults.size;
            default:
                return BAD_VALUE;
        }
    }

    public int undoCount() {
        return kept;
    }

    public int memberNamed(int letters) {
        return state.indexOfName(letters);
    }

    public int memberNumber(int member, int what) throws IndexOutOfBoundsException {
        Member asked = memberAt(member);
        switch (what) {
            case 0:
                return asked.pace;
            case 1:
                return asked.executed;
            case 2:
                return asked.active ? 1 : 0;
            case 3:
                return asked.gave;
            case 4:
                return asked.got;
            case 5:
                return asked.healings;
            default:
                return BAD_VALUE;
        }
    }

    public int getSetting(int setting) {
        if (!isSetting(setting)) {
            return BAD_VALUE;
        }
        return state.settings[setting];
    }

    public int cellOf(int member, int cell) throws IndexOutOfBoundsException {
        Member asked = memberAt(member);
        requireCell(cell);
        return asked.cells[cell];
    }

    public int commandCount(int turn) throws IndexOutOfBoundsException {
        requireSealed(turn);
        return script.sizes[turn];
    }

    public int command(int turn, int k, int what) throws IndexOutOfBoundsException {
        requireSealed(turn);
        if (!isIn(k, 0, script.sizes[turn] - 1)) {
            return NOT_FOUND;
        }
        if (!isIn(what, 0, WIDTH - 1)) {
            return BAD_VALUE;
        }
        return script.numberOf(turn, k, what);
    }

    public int faultNumber(int fault, int what) throws IndexOutOfBoundsException {
        if (!isIn(fault, 0, state.faults.size - 1)) {
            throw new IndexOutOfBoundsException("no such fault");
        }
        if (!isIn(what, 0, WIDTH - 1)) {
            return BAD_VALUE;
        }
        return state.faults.numbers[fault * WIDTH + what];
    }

    // ---- checksums and halving

    public int checksum(int member, int node) throws IndexOutOfBoundsException {
        Member asked = memberAt(member);
        if (!isIn(node, 1, Tree.LAST_NODE)) {
            return BAD_VALUE;
        }
        return descent.checksumOf(asked.cells, node);
    }

    public int rootAt(int member, int turn) throws IndexOutOfBoundsException {
        Member asked = memberAt(member);
        return asked.hasRecord(turn) ? asked.roots[turn] : NOT_FOUND;
    }

    public int firstWrongTurn(int a, int b) throws IndexOutOfBoundsException {
        Member former = memberAt(a);
        Member latter = memberAt(b);
        int greatest = greatestShared(former, latter);
        for (int turn = leastShared(former, latter); turn <= greatest; turn++) {
            if (former.roots[turn] != latter.roots[turn]) {
                return turn;
            }
        }
        return NOT_FOUND;
    }

    public int halvedTurn(int a, int b) throws IndexOutOfBoundsException {
        Member former = memberAt(a);
        Member latter = memberAt(b);
        int least = leastShared(former, latter);
        int greatest = greatestShared(former, latter);
        if (least > greatest || former.roots[greatest] == latter.roots[greatest]) {
            return NOT_FOUND;
        }
        for (int step = 0; step < TURN_LIMIT && least < greatest; step++) {
            int middle = (least + greatest) / 2;
            if (former.roots[middle] != latter.roots[middle]) {
                greatest = middle;
            } else {
                least = middle + 1;
            }
        }
        return least;
    }

    private static int leastShared(Member a, Member b) {
        return Math.max(a.began, b.began);
    }

    private static int greatestShared(Member a, Member b) {
        return Math.min(a.executed, b.executed);
    }

    public boolean isHalvingRight(int a, int b) throws IndexOutOfBoundsException {
        return halvedTurn(a, b) == firstWrongTurn(a, b);
    }

    public int firstWrongCell(int a, int b) throws IndexOutOfBoundsException {
        Member former = memberAt(a);
        Member latter = memberAt(b);
        if (former.executed != latter.executed) {
            return NOT_ALLOWED;
        }
        descent.goDown(former.cells, latter.cells);
        for (int c = 0; c < CELL_COUNT; c++) {
            if (isInSet(descent.wrong, c)) {
                return c;
            }
        }
        return NOT_FOUND;
    }

    public int wrongCells(int a, int b) throws IndexOutOfBoundsException {
        Member former = memberAt(a);
        Member latter = memberAt(b);
        descent.goDown(former.cells, latter.cells);
        return descent.wrong;
    }

    public int comparisons(int a, int b) throws IndexOutOfBoundsException {
        Member former = memberAt(a);
        Member latter = memberAt(b);
        descent.goDown(former.cells, latter.cells);
        return descent.compared;
    }

    // ---- votes and healing

    public int votes(int member, int turn) throws IndexOutOfBoundsException {
        Member asked = memberAt(member);
        if (!asked.hasRecord(turn)) {
            return NOT_FOUND;
        }
        return state.groupSize(turn, asked.roots[turn]);
    }

    public int winner(int turn) {
        return state.winnerAt(turn);
    }

    public boolean isWrong(int member) throws IndexOutOfBoundsException {
        return state.isOutvoted(memberAt(member));
    }

    public int wrongMembers() {
        int set = 0;
        for (int m = 0; m < state.memberCount; m++) {
            if (state.isOutvoted(state.members[m])) {
                set |= 1 << m;
            }
        }
        return set;
    }

    public int donorFor(int member) throws IndexOutOfBoundsException {
        Member asked = memberAt(member);
        return state.donorAt(asked.executed, member);
    }

    public int whyNot(int member) throws IndexOutOfBoundsException {
        Member asked = memberAt(member);
        if (!asked.active) {
            return 1;
        }
        if (state.winnerAt(asked.executed) == NOT_FOUND) {
            return 2;
        }
        if (!state.isOutvoted(asked)) {
            return 3;
        }
        return state.donorAt(asked.executed, member) == NOT_FOUND ? 4 : 0;
    }

    public int heal(int member) {
        if (!isMember(member)) {
            return NOT_FOUND;
        }
        if (whyNot(member) != 0) {
            return NOT_ALLOWED;
        }
        remember();
        return healOne(member);
    }

    public int healAll() {
        int healed = 0;
        for (int m = 0; m < state.memberCount; m++) {
            if (whyNot(m) == 0) {
                if (healed == 0) {
                    remember();
                }
                healOne(m);
                healed++;
            }
        }
        return healed == 0 ? NOT_FOUND : healed;
    }

    private int healOne(int member) {
        Member healed = state.members[member];
        int donor = state.donorAt(healed.executed, member);
        if (donor == NOT_FOUND) {
            return 0;
        }
        descent.goDown(state.members[donor].cells, healed.cells);
        healed.healings++;
        return copyCells(state.members[donor], healed, descent.wrong);
    }

    /** Copies a set of cells between two members who have executed the same number of turns. */
    private static int copyCells(Member donor, Member receiver, int set) {
        for (int c = 0; c < CELL_COUNT; c++) {
            if (isInSet(set, c)) {
                receiver.cells[c] = donor.cells[c];
            }
        }
        int copied = Integer.bitCount(set);
        donor.gave += copied;
        receiver.got += copied;
        receiver.roots[receiver.executed] = donor.roots[receiver.executed];
        return copied;
    }

    public int join(int pace) {
        if (!isIn(pace, 1, GREATEST_PACE)) {
            return BAD_VALUE;
        }
        if (state.memberCount >= MEMBER_LIMIT) {
            return FULL;
        }
        int turns = state.extremeTurns(false);
        int donor = state.donorAt(turns, NOT_FOUND);
        if (donor == NOT_FOUND) {
            return NOT_ALLOWED;
        }
        remember();
        Member joined = state.admit(0, pace, turns);
        copyCells(state.members[donor], joined, ALL_CELLS);
        return state.memberCount - 1;
    }

    public int leave(int member) {
        if (!isMember(member)) {
            return NOT_FOUND;
        }
        if (!state.members[member].active) {
            return NOT_ALLOWED;
        }
        remember();
        state.members[member].active = false;
        state.faults.drop(member, 0, TURN_LIMIT - 1);
        return state.activeCount();
    }

    // ---- turns

    public int reached(boolean greatest) {
        return state.extremeTurns(greatest);
    }

    public int mayRun(int member) throws IndexOutOfBoundsException {
        Member asked = memberAt(member);
        return asked.active ? turnsUpTo(asked, lastAllowedTurns()) : 0;
    }

    /** The number of turns beyond which no active member may come now. */
    private int lastAllowedTurns() {
        return Math.min(state.sealedTurns, state.extremeTurns(false) + state.settings[LAG]);
    }

    private static int turnsUpTo(Member member, int turns) {
        return Math.max(0, turns - member.executed);
    }

    public double meanTurns() {
        int active = state.activeCount();
        if (active == 0) {
            return 0;
        }
        int sum = 0;
        for (int m = 0; m < state.memberCount; m++) {
            if (state.members[m].active) {
                sum += state.members[m].executed;
            }
        }
        return (double) sum / (double) active;
    }

    public int truth(int turn, int cell) throws IndexOutOfBoundsException {
        requireCell(cell);
        if (!isIn(turn, 0, state.sealedTurns)) {
            return NOT_FOUND;
        }
        System.arraycopy(script.start, 0, trial, 0, CELL_COUNT);
        for (int t = 0; t < turn; t++) {
            script.execute(t, trial);
        }
        return trial[cell];
    }

    public int trueMembers() {
        int set = 0;
        System.arraycopy(script.start, 0, trial, 0, CELL_COUNT);
        for (int turns = 0; turns <= state.sealedTurns; turns++) {
            if (turns > 0) {
                script.execute(turns - 1, trial);
            }
            set |= membersLike(trial, turns);
        }
        return set;
    }

    private int membersLike(int[] cells, int turns) {
        int set = 0;
        for (int m = 0; m < state.memberCount; m++) {
            Member member = state.members[m];
            if (member.executed == turns && areSame(member.cells, cells)) {
                set |= 1 << m;
            }
        }
        return set;
    }

    private static boolean areSame(int[] cells, int[] others) {
        for (int c = 0; c < CELL_COUNT; c++) {
            if (cells[c] != others[c]) {
                return false;
            }
        }
        return true;
    }

    public int foreseen(int member, int cell) throws IndexOutOfBoundsException {
        Member asked = memberAt(member);
        requireCell(cell);
        System.arraycopy(asked.cells, 0, trial, 0, CELL_COUNT);
        for (int turn = asked.executed; turn < state.sealedTurns; turn++) {
            script.execute(turn, trial);
            state.faults.addTo(trial, member, turn);
        }
        return trial[cell];
    }

    public int lastWrite(int member, int cell) throws IndexOutOfBoundsException {
        Member asked = memberAt(member);
        requireCell(cell);
        for (int turn = asked.executed - 1; turn >= 0; turn--) {
            if (script.changes(turn, cell)) {
                return turn;
            }
        }
        return NOT_FOUND;
    }

    public int give(int author, int sort, int cell, int operand) {
        if (!isMember(author)) {
            return NOT_FOUND;
        }
        if (!isIn(sort, PUT, MUL) || !isCell(cell) || !isIn(operand, 0, greatestOperand(sort))) {
            return BAD_VALUE;
        }
        if (!state.members[author].active) {
            return NOT_ALLOWED;
        }
        if (state.openCommands >= COMMAND_LIMIT) {
            return FULL;
        }
        remember();
        state.addCommand(script, author, sort, cell, operand);
        return state.openCommands;
    }

    public int seal() {
        if (state.sealedTurns >= TURN_LIMIT) {
            return FULL;
        }
        remember();
        state.closeTurn(script);
        return state.sealedTurns;
    }

    public int run(int member, int turns) {
        if (!isMember(member)) {
            return NOT_FOUND;
        }
        if (!isIn(turns, 1, TURN_LIMIT)) {
            return BAD_VALUE;
        }
        if (!state.members[member].active) {
            return NOT_ALLOWED;
        }
        remember();
        int executed = Math.min(turns, mayRun(member));
        executeTurns(member, executed);
        return executed;
    }

    public int tick() {
        remember();
        int last = lastAllowedTurns();
        int sum = 0;
        for (int m = 0; m < state.memberCount; m++) {
            Member member = state.members[m];
            if (member.active) {
                int turns = Math.min(member.pace, turnsUpTo(member, last));
                executeTurns(m, turns);
                sum += turns;
            }
        }
        return sum;
    }

    private void executeTurns(int index, int turns) {
        Member member = state.members[index];
        for (int n = 0; n < turns && member.executed < state.sealedTurns; n++) {
            int turn = member.executed;
            script.execute(turn, member.cells);
            state.faults.addTo(member.cells, index, turn);
            state.faults.drop(index, turn, turn);
            member.executed = turn + 1;
            member.roots[turn + 1] = descent.rootOf(member.cells);
        }
    }

    public int fault(int member, int turn, int cell, int amount) {
        if (!isMember(member)) {
            return NOT_FOUND;
        }
        if (!isIn(turn, 0, TURN_LIMIT - 1) || !isCell(cell) || !isIn(amount, 1, GREATEST_NUMBER)) {
            return BAD_VALUE;
        }
        if (!state.members[member].active || turn < state.members[member].executed) {
            return NOT_ALLOWED;
        }
        if (state.faults.size >= FAULT_LIMIT) {
            return FULL;
        }
        remember();
        state.faults.append(member, turn, cell, amount);
        return state.faults.size;
    }

    // ---- settings and changes

    public int setSetting(int setting, int value) {
        if (!isSetting(setting) || !isIn(value, 1, greatestOf(setting))) {
            return BAD_VALUE;
        }
        remember();
        int previous = state.settings[setting];
        state.settings[setting] = value;
        return previous;
    }

    public int undo() {
        if (kept == 0) {
            return NOT_FOUND;
        }
        state.copyFrom(earlier[latest]);
        latest = (latest + CHANGE_LIMIT - 1) % CHANGE_LIMIT;
        kept--;
        return kept;
    }

    /** Keeps the state for undo; called when nothing can stop a change any more, ahead of it. */
    private void remember() {
        latest = (latest + 1) % CHANGE_LIMIT;
        kept = Math.min(kept + 1, CHANGE_LIMIT);
        earlier[latest].copyFrom(state);
    }

    // ---- what is valid

    private boolean isMember(int member) {
        return isIn(member, 0, state.memberCount - 1);
    }

    private Member memberAt(int member) throws IndexOutOfBoundsException {
        if (!isMember(member)) {
            throw new IndexOutOfBoundsException("no such member");
        }
        return state.members[member];
    }

    private void requireSealed(int turn) throws IndexOutOfBoundsException {
        if (!isIn(turn, 0, state.sealedTurns - 1)) {
            throw new IndexOutOfBoundsException("no such sealed turn");
        }
    }

    private static void requireCell(int cell) throws IndexOutOfBoundsException {
        if (!isCell(cell)) {
            throw new IndexOutOfBoundsException("no such cell");
        }
    }

    private static boolean isCell(int cell) {
        return isIn(cell, 0, CELL_COUNT - 1);
    }

    private static boolean isSetting(int setting) {
        return isIn(setting, 0, SETTING_COUNT - 1);
    }

    private static boolean isIn(int value, int least, int greatest) {
        return value >= least && value <= greatest;
    }

    private static boolean isInSet(int set, int bit) {
        return (set >>> bit & 1) != 0;
    }

    private static int greatestOperand(int sort) {
        return sort == PUT || sort == ADD ? GREATEST_NUMBER : CELL_COUNT - 1;
    }

    private static int greatestOf(int setting) {
        return setting == LAG ? TURN_LIMIT : MEMBER_LIMIT;
    }

    /** Where a letter of a name, from 0 on, stands in the number that holds the name. */
    private static int letterShift(int k) {
        return 5 * (NAME_LETTERS - 1 - k);
    }

    /** What a member is and has; its record has the turns from began to executed. */
    private static final class Member {
        /** As in memberNamed; 0 for none. */
        int name;
        int pace;
        int began;
        int executed;
        boolean active;
        int gave;
        int got;
        int healings;
        final int[] cells = new int[CELL_COUNT];
        final int[] roots = new int[TURN_LIMIT + 1];

        void copyFrom(Member other) {
            name = other.name;
            pace = other.pace;
            began = other.began;
            executed = other.executed;
            active = other.active;
            gave = other.gave;
            got = other.got;
            healings = other.healings;
            System.arraycopy(other.cells, 0, cells, 0, CELL_COUNT);
            System.arraycopy(other.roots, 0, roots, 0, TURN_LIMIT + 1);
        }

        void begin(int newName, int newPace, int turns) {
            name = newName;
            pace = newPace;
            began = turns;
            executed = turns;
            active = true;
            gave = 0;
            got = 0;
            healings = 0;
        }

        boolean hasRecord(int turn) {
            return turn >= began && turn <= executed;
        }
    }

    /** The faults that are waiting, in the order in which they were told. */
    private static final class Faults {
        final int[] numbers = new int[FAULT_LIMIT * WIDTH];
        int size = 0;

        void copyFrom(Faults other) {
            size = other.size;
            System.arraycopy(other.numbers, 0, numbers, 0, FAULT_LIMIT * WIDTH);
        }

        void append(int member, int turn, int cell, int amount) {
            if (size >= FAULT_LIMIT) {
                return;
            }
            int at = size * WIDTH;
            numbers[at] = member;
            numbers[at + 1] = turn;
            numbers[at + 2] = cell;
            numbers[at + 3] = amount;
            size++;
        }

        private boolean isOf(int fault, int member, int firstTurn, int lastTurn) {
            return numbers[fault * WIDTH] == member && isIn(numbers[fault * WIDTH + 1], firstTurn, lastTurn);
        }

        void addTo(int[] cells, int member, int turn) {
            for (int f = 0; f < size; f++) {
                if (isOf(f, member, turn, turn)) {
                    int cell = numbers[f * WIDTH + 2];
                    cells[cell] = (cells[cell] + numbers[f * WIDTH + 3]) % CELL_MODULUS;
                }
            }
        }

        /** Takes away what waits for a member in some turns; the others keep their order. */
        void drop(int member, int firstTurn, int lastTurn) {
            int left = 0;
            for (int f = 0; f < size; f++) {
                if (!isOf(f, member, firstTurn, lastTurn)) {
                    System.arraycopy(numbers, f * WIDTH, numbers, left * WIDTH, WIDTH);
                    left++;
                }
            }
            size = left;
        }
    }

    /**
     * The cells of the start and the commands of all turns. Of the states that undo can bring back, none has a
     * command that a later one lacks or has elsewhere, so they share one script: each state knows how far it
     * goes, and what stands beyond is written over. Therefore a turn keeps the order in which its commands were
     * given beside the one in which they are executed.
     */
    private static final class Script {
        final int[] start = new int[CELL_COUNT];
        /** How many commands each sealed turn has. */
        final int[] sizes = new int[TURN_LIMIT];
        /** Author, sort, cell and operand of each command, as they were given; one more turn may be open. */
        private final int[] numbers = new int[(TURN_LIMIT + 1) * COMMAND_LIMIT * WIDTH];
        /** Where in numbers the commands of a sealed turn stand, as they are executed. */
        private final int[] order = new int[TURN_LIMIT * COMMAND_LIMIT];

        void put(int place, int author, int sort, int cell, int operand) {
            int at = place * WIDTH;
            numbers[at] = author;
            numbers[at + 1] = sort;
            numbers[at + 2] = cell;
            numbers[at + 3] = operand;
        }

        void arrange(int turn, int size) {
            sizes[turn] = size;
            int next = turn * COMMAND_LIMIT;
            for (int author = 0; author < MEMBER_LIMIT; author++) {
                for (int k = 0; k < size; k++) {
                    int at = (turn * COMMAND_LIMIT + k) * WIDTH;
                    if (numbers[at] == author) {
                        order[next] = at;
                        next++;
                    }
                }
            }
        }

        int numberOf(int turn, int k, int what) {
            return numbers[order[turn * COMMAND_LIMIT + k] + what];
        }

        void execute(int turn, int[] cells) {
            for (int k = 0; k < sizes[turn]; k++) {
                change(cells, numberOf(turn, k, 1), numberOf(turn, k, 2), numberOf(turn, k, 3));
            }
        }

        private static void change(int[] cells, int sort, int cell, int operand) {
            switch (sort) {
                case PUT:
                    cells[cell] = operand;
                    break;
                case ADD:
                    cells[cell] = (cells[cell] + operand) % CELL_MODULUS;
                    break;
                case COPY:
                    cells[cell] = cells[operand];
                    break;
                case SUM:
                    cells[cell] = (cells[cell] + cells[operand]) % CELL_MODULUS;
                    break;
                case SWAP:
                    swapCells(cells, cell, operand);
                    break;
                default:
                    cells[cell] = cells[cell] * cells[operand] % CELL_MODULUS;
                    break;
            }
        }

        private static void swapCells(int[] cells, int a, int b) {
            int former = cells[a];
            cells[a] = cells[b];
            cells[b] = former;
        }

        boolean changes(int turn, int cell) {
            for (int k = 0; k < sizes[turn]; k++) {
                boolean isSwapped = numberOf(turn, k, 1) == SWAP && numberOf(turn, k, 3) == cell;
                if (numberOf(turn, k, 2) == cell || isSwapped) {
                    return true;
                }
            }
            return false;
        }
    }

    /** All that undo brings back, but for the commands, which stand in the script. */
    private static final class State {
        final Member[] members = new Member[MEMBER_LIMIT];
        int memberCount = 0;
        int sealedTurns = 0;
        int openCommands = 0;
        final int[] settings = new int[SETTING_COUNT];
        final Faults faults = new Faults();

        State() {
            for (int m = 0; m < MEMBER_LIMIT; m++) {
                members[m] = new Member();
            }
            settings[LAG] = 40;
            settings[QUORUM] = 2;
        }

        void clear() {
            memberCount = 0;
            sealedTurns = 0;
            openCommands = 0;
            settings[LAG] = 40;
            settings[QUORUM] = 2;
            faults.size = 0;
        }

        void copyFrom(State other) {
            memberCount = other.memberCount;
            for (int m = 0; m < memberCount; m++) {
                members[m].copyFrom(other.members[m]);
            }
            sealedTurns = other.sealedTurns;
            openCommands = other.openCommands;
            System.arraycopy(other.settings, 0, settings, 0, SETTING_COUNT);
            faults.copyFrom(other.faults);
        }

        /** Callers see to it that there is room for one more. */
        Member admit(int name, int pace, int turns) {
            Member member = members[memberCount];
            member.begin(name, pace, turns);
            memberCount++;
            return member;
        }

        void addCommand(Script script, int author, int sort, int cell, int operand) {
            script.put(sealedTurns * COMMAND_LIMIT + openCommands, author, sort, cell, operand);
            openCommands++;
        }

        void closeTurn(Script script) {
            script.arrange(sealedTurns, openCommands);
            sealedTurns++;
            openCommands = 0;
        }

        int indexOfName(int letters) {
            // 0 stands for no name, and no text can give it
            if (letters == 0) {
                return NOT_FOUND;
            }
            for (int m = 0; m < memberCount; m++) {
                if (members[m].name == letters) {
                    return m;
                }
            }
            return NOT_FOUND;
        }

        int activeCount() {
            int active = 0;
            for (int m = 0; m < memberCount; m++) {
                if (members[m].active) {
                    active++;
                }
            }
            return active;
        }

        int extremeTurns(boolean greatest) {
            int turns = NOT_FOUND;
            for (int m = 0; m < memberCount; m++) {
                Member member = members[m];
                if (member.active) {
                    boolean isBeyond = greatest ? member.executed > turns : member.executed < turns;
                    if (turns == NOT_FOUND || isBeyond) {
                        turns = member.executed;
                    }
                }
            }
            return turns;
        }

        private boolean votesFor(int m, int turn, int root) {
            Member member = members[m];
            return member.active && member.hasRecord(turn) && member.roots[turn] == root;
        }

        int groupSize(int turn, int root) {
            int size = 0;
            for (int m = 0; m < memberCount; m++) {
                if (votesFor(m, turn, root)) {
                    size++;
                }
            }
            return size;
        }

        int winnerAt(int turn) {
            int winner = NOT_FOUND;
            int most = settings[QUORUM] - 1;
            for (int m = 0; m < memberCount; m++) {
                Member member = members[m];
                if (member.active && member.hasRecord(turn)) {
                    int size = groupSize(turn, member.roots[turn]);
                    if (size > most) {
                        most = size;
                        winner = m;
                    }
                }
            }
            return winner;
        }

        boolean isOutvoted(Member member) {
            int turn = member.executed;
            int winner = winnerAt(turn);
            return member.active && winner != NOT_FOUND && member.roots[turn] != members[winner].roots[turn];
        }

        /** The donor among those who have executed some turns, another one than the receiver. */
        int donorAt(int turn, int receiver) {
            int winner = winnerAt(turn);
            if (winner == NOT_FOUND) {
                return NOT_FOUND;
            }
            int root = members[winner].roots[turn];
            int donor = NOT_FOUND;
            for (int m = 0; m < memberCount; m++) {
                if (m != receiver && members[m].executed == turn && votesFor(m, turn, root)
                        && (donor == NOT_FOUND || members[m].gave < members[donor].gave)) {
                    donor = m;
                }
            }
            return donor;
        }
    }

    /** The checksums of all nodes over some cells. */
    private static final class Tree {
        static final int FIRST_LEAF = 16;
        static final int LAST_NODE = 31;
        final int[] sums = new int[LAST_NODE + 1];

        void growOver(int[] cells) {
            for (int c = 0; c < CELL_COUNT; c++) {
                sums[FIRST_LEAF + c] = 40503 * cells[c] + 977 * c + 1;
            }
            for (int k = FIRST_LEAF - 1; k >= 1; k--) {
                long sum = 69069L * sums[2 * k] + (30011L + 2 * k) * sums[2 * k + 1] + k;
                sums[k] = (int) (sum % 2147483647L);
            }
        }
    }

    /** Goes down two trees to the cells that differ. */
    private static final class Descent {
        private final Tree former = new Tree();
        private final Tree latter = new Tree();
        /** The cells that the latest descent found, as a bit set, and the nodes that it compared. */
        int wrong = 0;
        int compared = 0;

        int checksumOf(int[] cells, int node) {
            former.growOver(cells);
            return former.sums[node];
        }

        int rootOf(int[] cells) {
            return checksumOf(cells, 1);
        }

        /** A node is looked at if its parent differs; parents come first, as their numbers are less. */
        void goDown(int[] formerCells, int[] latterCells) {
            former.growOver(formerCells);
            latter.growOver(latterCells);
            wrong = 0;
            compared = 0;
            int toCompare = 1 << 1;
            for (int k = 1; k <= Tree.LAST_NODE; k++) {
                if (isInSet(toCompare, k)) {
                    compared++;
                    if (former.sums[k] != latter.sums[k]) {
                        if (k < Tree.FIRST_LEAF) {
                            toCompare |= 3 << (2 * k);
                        } else {
                            wrong |= 1 << (k - Tree.FIRST_LEAF);
                        }
                    }
                }
            }
        }
    }

    /** Reads the text format. */
    private static final class Loader {
        private static final int END = 0, WORD = 1, INTEGER = 2, SIGN = 3;
        /** All integers from here on are out of every range, so longer ones need not be told apart. */
        private static final int TOO_GREAT = 10000;

        final byte[] text = new byte[INPUT_LIMIT];
        /** What is read goes in here, so that an error leaves the room as it was. */
        State state = new State();
        Script script = new Script();
        private int length = 0;
        private boolean hasStart = false;
        private int givenSettings = 0;
        /** The token that is looked at: what it is, where it begins and ends, and the value of an integer. */
        private int kind = END;
        private int tokenAt = 0;
        private int tokenEnd = 0;
        private int value = 0;
        /** The integer or the member that was taken last. */
        private int taken = 0;
        private int error = 0;
        int errorAt = NOT_FOUND;

        /** Answers the number of statements or the error code. */
        int readText(int textLength) {
            length = Math.min(textLength, INPUT_LIMIT);
            state.clear();
            Arrays.fill(script.start, 0);
            hasStart = false;
            givenSettings = 0;
            tokenEnd = 0;
            error = 0;
            errorAt = NOT_FOUND;
            nextToken();
            int statements = 0;
            while (statements < length && kind != END) {
                if (!readStatement() || !takeSemicolon()) {
                    return error;
                }
                statements++;
            }
            return statements;
        }

        private boolean readStatement() {
            if (isWord("start")) {
                return readStart();
            }
            if (isWord("member")) {
                return readMember();
            }
            if (isWord("do")) {
                return readCommand();
            }
            if (isWord("seal")) {
                return readSeal();
            }
            if (isWord("fault")) {
                return readFault();
            }
            if (isWord("set")) {
                return readSetting();
            }
            return fail(SYNTAX_ERROR);
        }

        private boolean readStart() {
            if (hasStart) {
                return fail(DUPLICATE_ERROR);
            }
            hasStart = true;
            nextToken();
            int size = 0;
            while (size <= CELL_COUNT && (size == 0 || kind == INTEGER)) {
                if (!checkInteger(0, GREATEST_NUMBER)) {
                    return false;
                }
                if (size == CELL_COUNT) {
                    return fail(COUNT_ERROR);
                }
                script.start[size] = value;
                size++;
                nextToken();
            }
            return true;
        }

        private boolean readMember() {
            if (state.memberCount >= MEMBER_LIMIT) {
                return fail(COUNT_ERROR);
            }
            nextToken();
            if (!isName()) {
                return fail(SYNTAX_ERROR);
            }
            int name = nameLetters();
            if (state.indexOfName(name) != NOT_FOUND) {
                return fail(DUPLICATE_ERROR);
            }
            nextToken();
            if (!takeInteger(1, GREATEST_PACE)) {
                return false;
            }
            state.admit(name, taken, 0);
            return true;
        }

        private boolean readCommand() {
            if (state.openCommands >= COMMAND_LIMIT) {
                return fail(COUNT_ERROR);
            }
            nextToken();
            if (!takeMember()) {
                return false;
            }
            int author = taken;
            int sort = sortOfWord();
            if (sort == NOT_FOUND) {
                return fail(SYNTAX_ERROR);
            }
            nextToken();
            if (!takeInteger(0, CELL_COUNT - 1)) {
                return false;
            }
            int cell = taken;
            if (!takeInteger(0, greatestOperand(sort))) {
                return false;
            }
            state.addCommand(script, author, sort, cell, taken);
            return true;
        }

        private boolean readSeal() {
            if (state.sealedTurns >= TURN_LIMIT) {
                return fail(COUNT_ERROR);
            }
            nextToken();
            state.closeTurn(script);
            return true;
        }

        private boolean readFault() {
            if (state.faults.size >= FAULT_LIMIT) {
                return fail(COUNT_ERROR);
            }
            nextToken();
            if (!takeMember()) {
                return false;
            }
            int member = taken;
            if (!takeInteger(0, TURN_LIMIT - 1)) {
                return false;
            }
            int turn = taken;
            if (!takeInteger(0, CELL_COUNT - 1)) {
                return false;
            }
            int cell = taken;
            if (!takeInteger(1, GREATEST_NUMBER)) {
                return false;
            }
            state.faults.append(member, turn, cell, taken);
            return true;
        }

        private boolean readSetting() {
            nextToken();
            int setting = isWord("lag") ? LAG : isWord("quorum") ? QUORUM : NOT_FOUND;
            if (setting == NOT_FOUND) {
                return fail(SYNTAX_ERROR);
            }
            if (isInSet(givenSettings, setting)) {
                return fail(DUPLICATE_ERROR);
            }
            givenSettings |= 1 << setting;
            nextToken();
            if (!takeInteger(1, greatestOf(setting))) {
                return false;
            }
            state.settings[setting] = taken;
            return true;
        }

        private int sortOfWord() {
            if (isWord("put")) {
                return PUT;
            }
            if (isWord("add")) {
                return ADD;
            }
            if (isWord("copy")) {
                return COPY;
            }
            if (isWord("sum")) {
                return SUM;
            }
            if (isWord("swap")) {
                return SWAP;
            }
            return isWord("mul") ? MUL : NOT_FOUND;
        }

        private boolean takeMember() {
            if (!isName()) {
                return fail(SYNTAX_ERROR);
            }
            taken = state.indexOfName(nameLetters());
            if (taken == NOT_FOUND) {
                return fail(NAME_ERROR);
            }
            nextToken();
            return true;
        }

        private boolean takeInteger(int least, int greatest) {
            if (!checkInteger(least, greatest)) {
                return false;
            }
            taken = value;
            nextToken();
            return true;
        }

        private boolean checkInteger(int least, int greatest) {
            if (kind != INTEGER) {
                return fail(SYNTAX_ERROR);
            }
            return isIn(value, least, greatest) || fail(RANGE_ERROR);
        }

        private boolean takeSemicolon() {
            if (kind != SIGN || text[tokenAt] != ';') {
                return fail(SYNTAX_ERROR);
            }
            nextToken();
            return true;
        }

        private boolean fail(int code) {
            error = code;
            errorAt = tokenAt;
            return false;
        }

        private boolean isName() {
            return kind == WORD && tokenEnd - tokenAt <= NAME_LETTERS;
        }

        private int nameLetters() {
            int letters = 0;
            for (int k = 0; k < NAME_LETTERS && tokenAt + k < tokenEnd; k++) {
                letters |= (text[tokenAt + k] - 'a' + 1) << letterShift(k);
            }
            return letters;
        }

        private boolean isWord(String word) {
            if (kind != WORD || tokenEnd - tokenAt != word.length()) {
                return false;
            }
            for (int k = 0; k < word.length(); k++) {
                if (text[tokenAt + k] != word.charAt(k)) {
                    return false;
                }
            }
            return true;
        }

        private void nextToken() {
            tokenAt = tokenEnd;
            while (tokenAt < length && (text[tokenAt] == ' ' || text[tokenAt] == '\n')) {
                tokenAt++;
            }
            tokenEnd = tokenAt;
            if (tokenAt >= length) {
                kind = END;
            } else if (isLetter(tokenAt)) {
                kind = WORD;
                while (tokenEnd < length && isLetter(tokenEnd)) {
                    tokenEnd++;
                }
            } else if (isDigit(tokenAt)) {
                kind = INTEGER;
                value = 0;
                while (tokenEnd < length && isDigit(tokenEnd)) {
                    value = Math.min(TOO_GREAT, value * 10 + text[tokenEnd] - '0');
                    tokenEnd++;
                }
            } else {
                kind = SIGN;
                tokenEnd++;
            }
        }

        private boolean isLetter(int at) {
            return text[at] >= 'a' && text[at] <= 'z';
        }

        private boolean isDigit(int at) {
            return text[at] >= '0' && text[at] <= '9';
        }
    }
}
