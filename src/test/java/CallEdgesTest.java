import java.util.HashMap;
import java.util.Map;

/** The edges of promises 1 and 5 to 47, promise by promise: the last arguments that are allowed, those just beyond, and refused calls. */
public final class CallEdgesTest {
    private static final Check check = new Check();
    private static final int NONE = LockstepRoom.NOT_FOUND;
    private static final int BAD = LockstepRoom.BAD_VALUE;
    private static final int FULL = LockstepRoom.FULL;
    private static final int NOT_ALLOWED = LockstepRoom.NOT_ALLOWED;
    private static final int LAG = LockstepRoom.LAG;
    private static final int QUORUM = LockstepRoom.QUORUM;
    private static final int LEAST = Integer.MIN_VALUE;
    private static final int GREATEST = Integer.MAX_VALUE;
    private static final String SIX = "member a 1;member b 1;member c 1;member d 1;member e 1;member f 1;";

    private static final Snapshot.Recipe NEW = LockstepRoom::new;
    private static final Snapshot.Recipe BUSY = CallEdgesTest::busy;
    private static final Snapshot.Recipe ALL = CallEdgesTest::full;
    private static final Snapshot.Recipe NO_DONOR = CallEdgesTest::withoutDonor;

    /** What these rooms are: a snapshot costs some thousand calls, and most of the tests need one. */
    private static final Map<Snapshot.Recipe, String> known = new HashMap<>();

    /** What a call that must throw is due to answer here. */
    private static final int THROWS = 77;

    public static void main(String[] args) {
        newObject();
        count();
        undoCount();
        memberNamed();
        memberNumber();
        getSetting();
        cellOf();
        commandCount();
        command();
        faultNumber();
        checksum();
        rootAt();
        pairs();
        firstWrongCell();
        votes();
        winner();
        wrong();
        donorFor();
        whyNot();
        reached();
        mayRun();
        meanTurns();
        truth();
        trueMembers();
        foreseen();
        lastWrite();
        give();
        seal();
        run();
        tick();
        fault();
        heal();
        healAll();
        join();
        leave();
        setSetting();
        undo();
        write();
        outputAt();
        questionsChangeNothing();
        check.finish();
    }

    // ---- rooms

    /** a to c and one who joined, c having left; b is wrong; turns 0 to 2 are sealed, a fault of a and two commands wait; ten changes are kept. */
    private static LockstepRoom busy() {
        LockstepRoom x = Check.loaded("start 5 6;member a 1;member b 2;member c 1;fault b 0 4 9;do a add 0 1;seal;do b mul 1 1;do a copy 15 0;seal;seal;");
        x.fault(0, 9, 5, 5);
        x.fault(2, 8, 5, 5);
        x.tick();
        x.tick();
        x.setSetting(LAG, 30);
        x.undo();
        x.join(3);
        x.setSetting(LAG, 20);
        x.leave(2);
        x.setSetting(QUORUM, 1);
        x.give(1, LockstepRoom.SWAP, 0, 15);
        x.give(0, LockstepRoom.PUT, 2, 9999);
        x.run(0, 1);
        x.write(1);
        return x;
    }

    /** As busy, but with all that there can be: six members, two of which left, 40 turns, eight open commands, ten faults. */
    private static LockstepRoom full() {
        LockstepRoom x = Check.loaded("set quorum 1;" + SIX + "seal;".repeat(40) + "do b add 1 1;".repeat(8) + "fault d 5 5 5;".repeat(10));
        x.run(0, 3);
        x.run(1, 2);
        x.leave(5);
        x.leave(4);
        return x;
    }

    /** b is wrong at 1, where a and c win, who have gone on: nobody there can give it cells, nor to one who joins. */
    private static LockstepRoom withoutDonor() {
        LockstepRoom x = Check.loaded("member a 1;member b 1;member c 1;fault b 0 0 1;seal;seal;");
        x.run(0, 2);
        x.run(1, 1);
        x.run(2, 2);
        return x;
    }

    // ---- helpers

    private static long answer(Snapshot.Step call, LockstepRoom x) {
        try {
            return call.make(x);
        } catch (RuntimeException e) {
            return e.getClass() == IndexOutOfBoundsException.class ? THROWS : LEAST;
        }
    }

    /** The call answers so, and the room is as before it. */
    private static void refused(String call, Snapshot.Recipe room, Snapshot.Step made, int due) {
        check.due(call, answer(made, room.make()), due);
        Snapshot.Recipe behind = () -> {
            LockstepRoom x = room.make();
            answer(made, x);
            return x;
        };
        check.due("the room behind " + call, Snapshot.of(behind), known.computeIfAbsent(room, Snapshot::of));
    }

    private interface OfOne {
        long answer(LockstepRoom x, int value);
    }

    /** What the call answers for a value of a parameter that is no index. */
    private static void outside(String call, Snapshot.Recipe room, OfOne made, int due, int... values) {
        for (int value : values) {
            refused(call + " of " + value, room, x -> made.answer(x, value), due);
        }
    }

    /** The least and the greatest index are valid, those beside them are not. */
    private static void index(String call, Snapshot.Recipe room, OfOne made, int size) {
        for (int value : new int[] {-1, size, LEAST, GREATEST, -size, 2 * size + 7}) {
            if (value < 0 || value >= size) {
                refused(call + " of " + value, room, x -> made.answer(x, value), THROWS);
            }
        }
        for (int valid = 0; valid < size; valid++) {
            int value = valid;
            check.due(call + " of " + value + " throws", answer(x -> made.answer(x, value), room.make()) == THROWS, false);
        }
    }

    private static long number(boolean is) {
        return is ? 1 : 0;
    }

    // ---- promises

    private static void newObject() {
        check.about("Promise 1: a room without members, with initial settings, empty buffers and no changes to undo; all cells begin with 0");
        for (int what = 0; what < 4; what++) {
            check.due("count(" + what + ")", NEW.make().count(what), 0);
        }
        check.due("undoCount", NEW.make().undoCount(), 0);
        check.due("lag", NEW.make().getSetting(LAG), 40);
        check.due("quorum", NEW.make().getSetting(QUORUM), 2);
        check.due("outputAt(0)", NEW.make().outputAt(0), NONE);
        check.due("load(1)", NEW.make().load(1), BAD);
        check.due("errorPosition", NEW.make().errorPosition(), NONE);
        check.due("reached(false)", NEW.make().reached(false), NONE);
        check.due("reached(true)", NEW.make().reached(true), NONE);
        check.due("meanTurns", NEW.make().meanTurns(), 0.0);
        check.due("memberNamed(0)", NEW.make().memberNamed(0), NONE);
        for (int c = 0; c < 16; c++) {
            check.due("truth(0, " + c + ")", NEW.make().truth(0, c), 0);
        }
        refused("undo", NEW, x -> x.undo(), NONE);
        refused("healAll", NEW, x -> x.healAll(), NONE);
        refused("join", NEW, x -> x.join(1), NOT_ALLOWED);
        refused("heal", NEW, x -> x.heal(0), NONE);
        refused("leave", NEW, x -> x.leave(0), NONE);
        refused("run", NEW, x -> x.run(0, 1), NONE);
        refused("give", NEW, x -> x.give(0, 0, 0, 0), NONE);
        refused("fault", NEW, x -> x.fault(0, 0, 0, 1), NONE);
        refused("write", NEW, x -> x.write(0), THROWS);
        // seals without members make turns all the same
        LockstepRoom y = NEW.make();
        check.due("seal", y.seal(), 1);
        check.due("truth(1, 0)", y.truth(1, 0), 0);
        check.due("load of members", Check.load(y, "member a 1;"), 1);
        check.due("sealed behind load", y.count(1), 0);
    }

    private static void count() {
        check.about("Promise 5: BAD_VALUE for any other what");
        outside("count", BUSY, (x, what) -> x.count(what), BAD, -1, 4, 5, LEAST, GREATEST);
        int[] busy = {4, 3, 2, 1};
        int[] full = {6, 40, 8, 10};
        for (int what = 0; what < 4; what++) {
            check.due("count(" + what + ")", busy().count(what), busy[what]);
            check.due("count(" + what + ") of a full room", full().count(what), full[what]);
        }
    }

    private static void undoCount() {
        check.about("Promise 6: Returns 0 to 10");
        check.due("of a new room", new LockstepRoom().undoCount(), 0);
        check.due("of a loaded room", Check.loaded("seal;").undoCount(), 0);
        check.due("of a busy room", busy().undoCount(), 10);
        LockstepRoom x = busy();
        x.undo();
        check.due("behind undo", x.undoCount(), 9);
        x.load(0);
        check.due("behind load", x.undoCount(), 0);
    }

    private static void memberNamed() {
        check.about("Promise 7: six groups of 5 bits, the first letter in the highest group; a is 1, z is 26; unused groups at the end are 0; NOT_FOUND if there is none with that name");
        String[] names = {"z", "a", "zzzzzz", "az", "abcdef", "aaaaaa"};
        StringBuilder text = new StringBuilder();
        for (String name : names) {
            text.append("member ").append(name).append(" 1;");
        }
        Snapshot.Recipe room = () -> Check.loaded(text.toString());
        LockstepRoom x = room.make();
        int[] letters = {26 << 25, 1 << 25, 26 << 25 | 26 << 20 | 26 << 15 | 26 << 10 | 26 << 5 | 26, 1 << 25 | 26 << 20,
            1 << 25 | 2 << 20 | 3 << 15 | 4 << 10 | 5 << 5 | 6, 1 << 25 | 1 << 20 | 1 << 15 | 1 << 10 | 1 << 5 | 1};
        for (int m = 0; m < names.length; m++) {
            check.due(names[m], x.memberNamed(letters[m]), m);
            for (int bit = 0; bit < 32; bit++) {
                check.due(names[m] + " but for bit " + bit, x.memberNamed(letters[m] ^ 1 << bit), NONE);
            }
        }
        outside("memberNamed", room, (y, value) -> y.memberNamed(value), NONE, 0, 1, 26, -1, LEAST, GREATEST, 1 << 20, 27 << 25, 31 << 25, 1 << 25 | 1);
        check.about("Promise 7: those who joined later have no names");
        LockstepRoom joined = Check.loaded("member a 1;member b 1;");
        joined.join(1);
        check.due("memberNamed(0)", joined.memberNamed(0), NONE);
        joined.leave(0);
        check.due("one who left", joined.memberNamed(1 << 25), 0);
    }

    private static void memberNumber() {
        check.about("Promise 8: BAD_VALUE for any other what; throws if member is not a valid index (checked first)");
        outside("memberNumber(0, what)", BUSY, (x, what) -> x.memberNumber(0, what), BAD, -1, 6, LEAST, GREATEST);
        for (int what : new int[] {-1, 0, 5, 6}) {
            index("memberNumber(member, " + what + ")", BUSY, (x, m) -> x.memberNumber(m, what), 4);
        }
        index("memberNumber(member, 6) of a full room", ALL, (x, m) -> x.memberNumber(m, 6), 6);
        index("memberNumber(member, 6) of a new room", NEW, (x, m) -> x.memberNumber(m, 6), 0);
        int[][] due = {{1, 3, 1, 16, 0, 0}, {2, 3, 1, 0, 0, 0}, {1, 2, 0, 0, 0, 0}, {3, 2, 1, 0, 16, 0}};
        for (int m = 0; m < 4; m++) {
            for (int what = 0; what < 6; what++) {
                check.due("memberNumber(" + m + ", " + what + ")", busy().memberNumber(m, what), due[m][what]);
            }
        }
    }

    private static void getSetting() {
        check.about("Promise 9: BAD_VALUE if setting is neither");
        outside("getSetting", BUSY, (x, setting) -> x.getSetting(setting), BAD, -1, 2, LEAST, GREATEST);
        check.due("lag", busy().getSetting(LAG), 20);
        check.due("quorum", busy().getSetting(QUORUM), 1);
    }

    private static void cellOf() {
        check.about("Promise 10: throws if member or cell is not a valid index");
        index("cellOf(member, 0)", BUSY, (x, m) -> x.cellOf(m, 0), 4);
        index("cellOf(member, 15)", ALL, (x, m) -> x.cellOf(m, 15), 6);
        index("cellOf(0, cell)", BUSY, (x, c) -> x.cellOf(0, c), 16);
        index("cellOf(3, cell)", BUSY, (x, c) -> x.cellOf(3, c), 16);
        refused("cellOf(9, 16)", BUSY, x -> x.cellOf(9, 16), THROWS);
        refused("cellOf(0, 0) of a new room", NEW, x -> x.cellOf(0, 0), THROWS);
    }

    private static void commandCount() {
        check.about("Promise 11: throws if turn is not a valid index");
        index("commandCount", NEW, (x, turn) -> x.commandCount(turn), 0);
        index("commandCount", BUSY, (x, turn) -> x.commandCount(turn), 3);
        index("commandCount", ALL, (x, turn) -> x.commandCount(turn), 40);
        int[] due = {1, 2, 0};
        for (int turn = 0; turn < 3; turn++) {
            check.due("commandCount(" + turn + ")", busy().commandCount(turn), due[turn]);
        }
        // a turn that is not sealed any more
        LockstepRoom x = busy();
        x.seal();
        check.due("commandCount(3)", x.commandCount(3), 2);
        x.undo();
        check.noIndex("commandCount(3)", () -> x.commandCount(3));
    }

    private static void command() {
        check.about("Promise 12: throws if turn is not a valid index (checked first of all); NOT_FOUND if there is no such command (checked first); BAD_VALUE for any other what");
        for (int k : new int[] {-1, 0, 1, 2}) {
            for (int what : new int[] {-1, 0, 3, 4}) {
                index("command(turn, " + k + ", " + what + ")", BUSY, (x, turn) -> x.command(turn, k, what), 3);
            }
        }
        for (int what : new int[] {-1, 0, 3, 4, LEAST, GREATEST}) {
            outside("command(0, k, " + what + ")", BUSY, (x, k) -> x.command(0, k, what), NONE, -1, 1, 8, LEAST, GREATEST);
            outside("command(1, k, " + what + ")", BUSY, (x, k) -> x.command(1, k, what), NONE, -1, 2, 8, LEAST, GREATEST);
            outside("command(2, k, " + what + ")", BUSY, (x, k) -> x.command(2, k, what), NONE, -1, 0, 8, LEAST, GREATEST);
        }
        outside("command(1, 1, what)", BUSY, (x, what) -> x.command(1, 1, what), BAD, -1, 4, LEAST, GREATEST);
        int[][] due = {{0, LockstepRoom.COPY, 15, 0}, {1, LockstepRoom.MUL, 1, 1}};
        for (int k = 0; k < 2; k++) {
            for (int what = 0; what < 4; what++) {
                check.due("command(1, " + k + ", " + what + ")", busy().command(1, k, what), due[k][what]);
            }
        }
        // a turn with all eight
        LockstepRoom x = Check.loaded("member a 1;" + "do a put 1 1;".repeat(7) + "do a add 15 9999;seal;");
        int[] last = {0, LockstepRoom.ADD, 15, 9999, BAD};
        for (int what = 0; what < 5; what++) {
            check.due("command(0, 7, " + what + ")", x.command(0, 7, what), last[what]);
        }
        check.due("command(0, 8, 0)", x.command(0, 8, 0), NONE);
    }

    private static void faultNumber() {
        check.about("Promise 13: throws if fault is not a valid index (checked first); BAD_VALUE for any other what");
        for (int what : new int[] {-1, 0, 3, 4}) {
            index("faultNumber(fault, " + what + ")", NEW, (x, f) -> x.faultNumber(f, what), 0);
            index("faultNumber(fault, " + what + ")", BUSY, (x, f) -> x.faultNumber(f, what), 1);
            index("faultNumber(fault, " + what + ")", ALL, (x, f) -> x.faultNumber(f, what), 10);
        }
        outside("faultNumber(0, what)", BUSY, (x, what) -> x.faultNumber(0, what), BAD, -1, 4, LEAST, GREATEST);
        outside("faultNumber(9, what)", ALL, (x, what) -> x.faultNumber(9, what), BAD, -1, 4, LEAST, GREATEST);
        int[] due = {0, 9, 5, 5};
        for (int what = 0; what < 4; what++) {
            check.due("faultNumber(0, " + what + ")", busy().faultNumber(0, what), due[what]);
        }
    }

    private static void checksum() {
        check.about("Promise 14: BAD_VALUE if there is no such node; throws if member is not a valid index (checked first)");
        outside("checksum(0, node)", BUSY, (x, node) -> x.checksum(0, node), BAD, -1, 0, 32, 33, LEAST, GREATEST);
        outside("checksum(5, node)", ALL, (x, node) -> x.checksum(5, node), BAD, -1, 0, 32, 33, LEAST, GREATEST);
        for (int node : new int[] {0, 1, 31, 32}) {
            index("checksum(member, " + node + ")", BUSY, (x, m) -> x.checksum(m, node), 4);
        }
        index("checksum(member, 1) of a new room", NEW, (x, m) -> x.checksum(m, 1), 0);
        check.due("checksum(0, 31)", busy().checksum(0, 31), 40503 * busy().cellOf(0, 15) + 977 * 15 + 1);
        check.due("checksum(0, 16)", busy().checksum(0, 16), 40503 * busy().cellOf(0, 0) + 1);
        check.due("checksum(0, 1)", busy().checksum(0, 1), busy().rootAt(0, 3));
    }

    private static void rootAt() {
        check.about("Promise 15: NOT_FOUND if the record of the member does not have it; throws if member is not a valid index");
        outside("rootAt(0, turn)", BUSY, (x, turn) -> x.rootAt(0, turn), NONE, -1, 4, 40, 41, LEAST, GREATEST);
        outside("rootAt(1, turn)", BUSY, (x, turn) -> x.rootAt(1, turn), NONE, -1, 4, 40, 41, LEAST, GREATEST);
        outside("rootAt(2, turn), of one who left", BUSY, (x, turn) -> x.rootAt(2, turn), NONE, -1, 3, LEAST, GREATEST);
        outside("rootAt(3, turn), of one who joined", BUSY, (x, turn) -> x.rootAt(3, turn), NONE, -1, 0, 1, 3, LEAST, GREATEST);
        for (int turn : new int[] {-1, 0, 99}) {
            index("rootAt(member, " + turn + ")", BUSY, (x, m) -> x.rootAt(m, turn), 4);
        }
        check.due("rootAt(3, 2)", busy().rootAt(3, 2), busy().rootAt(0, 2));
        check.due("rootAt(0, 3)", busy().rootAt(0, 3), busy().checksum(0, 1));
        check.due("rootAt(0, 0)", busy().rootAt(0, 0), Check.loaded("start 5 6;member a 1;").checksum(0, 1));
    }

    private interface OfTwo {
        long answer(LockstepRoom x, int a, int b);
    }

    private static void pairs() {
        check.about("Promises 16 to 21: throws if a or b is not a valid index; b is possibly the same");
        OfTwo[] calls = {(x, a, b) -> x.firstWrongTurn(a, b), (x, a, b) -> x.halvedTurn(a, b), (x, a, b) -> number(x.isHalvingRight(a, b)),
            (x, a, b) -> x.firstWrongCell(a, b), (x, a, b) -> x.wrongCells(a, b), (x, a, b) -> x.comparisons(a, b)};
        int[] same = {NONE, NONE, 1, NONE, 0, 1};
        for (int k = 0; k < calls.length; k++) {
            OfTwo call = calls[k];
            for (int valid : new int[] {0, 3}) {
                index("call " + k + " (member, " + valid + ")", BUSY, (x, m) -> call.answer(x, m, valid), 4);
                index("call " + k + " (" + valid + ", member)", BUSY, (x, m) -> call.answer(x, valid, m), 4);
            }
            refused("call " + k + " of none", NEW, x -> call.answer(x, 0, 0), THROWS);
            refused("call " + k + " of two that are none", BUSY, x -> call.answer(x, -1, 4), THROWS);
            for (int m = 0; m < 4; m++) {
                check.due("call " + k + " of " + m + " and itself", call.answer(busy(), m, m), same[k]);
            }
        }
    }

    private static void firstWrongCell() {
        check.about("Promise 19: NOT_FOUND if none is found; NOT_ALLOWED if they have not executed the same number of turns");
        LockstepRoom x = Check.loaded("member a 1;member b 1;seal;seal;seal;fault b 2 0 1;");
        check.due("the same", x.firstWrongCell(0, 1), NONE);
        x.run(0, 1);
        check.due("one more, the same cells", x.firstWrongCell(0, 1), NOT_ALLOWED);
        check.due("one more, the same cells", x.firstWrongCell(1, 0), NOT_ALLOWED);
        check.due("cells that differ", x.wrongCells(0, 1), 0);
        x.run(1, 3);
        check.due("cell 0 differs, other turns", x.firstWrongCell(0, 1), NOT_ALLOWED);
        check.due("cell 0 differs, other turns", x.wrongCells(0, 1), 1);
        x.run(0, 2);
        check.due("cell 0 differs, the same turns", x.firstWrongCell(0, 1), 0);
        x.leave(0);
        check.due("also of one who left", x.firstWrongCell(0, 1), 0);
    }

    private static void votes() {
        check.about("Promise 22: NOT_FOUND if the record of the member does not have it; throws if member is not a valid index");
        for (int turn : new int[] {-1, 0, 99}) {
            index("votes(member, " + turn + ")", BUSY, (x, m) -> x.votes(m, turn), 4);
        }
        outside("votes(0, turn)", BUSY, (x, turn) -> x.votes(0, turn), NONE, -1, 4, 40, 41, LEAST, GREATEST);
        outside("votes(3, turn)", BUSY, (x, turn) -> x.votes(3, turn), NONE, -1, 0, 1, 3, LEAST, GREATEST);
        // a and b are active at 0, c left: it is not counted, but has its record
        check.due("votes(0, 0)", busy().votes(0, 0), 2);
        check.due("votes(2, 0)", busy().votes(2, 0), 2);
        // b has another record from 1 on
        check.due("votes(1, 1)", busy().votes(1, 1), 1);
        check.due("votes(2, 1)", busy().votes(2, 1), 1);
        check.due("votes(3, 2)", busy().votes(3, 2), 2);
        LockstepRoom x = Check.loaded("member a 1;member b 1;fault b 0 0 1;seal;");
        x.tick();
        x.leave(1);
        check.due("none has the record of one who left", x.votes(1, 1), 0);
    }

    private static void winner() {
        check.about("Promise 23: NOT_FOUND if there is no vote");
        outside("winner", BUSY, (x, turn) -> x.winner(turn), NONE, -1, 4, 40, 41, LEAST, GREATEST);
        outside("winner", ALL, (x, turn) -> x.winner(turn), NONE, -1, 4, 40, 41, LEAST, GREATEST);
        outside("winner", NEW, (x, turn) -> x.winner(turn), NONE, -1, 0, 1, LEAST, GREATEST);
        LockstepRoom x = Check.loaded("set quorum 1;member a 1;" + "seal;".repeat(40));
        x.run(0, 40);
        check.due("winner(0)", x.winner(0), 0);
        check.due("winner(40)", x.winner(40), 0);
        check.due("winner(41)", x.winner(41), NONE);
    }

    private static void wrong() {
        check.about("Promises 24 and 25: throws if member is not a valid index; the members as a bit set");
        index("isWrong", BUSY, (x, m) -> number(x.isWrong(m)), 4);
        index("isWrong", ALL, (x, m) -> number(x.isWrong(m)), 6);
        index("isWrong", NEW, (x, m) -> number(x.isWrong(m)), 0);
        for (int wrong = 0; wrong < 64; wrong++) {
            StringBuilder text = new StringBuilder(SIX + "set quorum 1;seal;");
            for (int m = 0; m < 6; m++) {
                text.append((wrong >> m & 1) != 0 ? "fault " + (char) ('a' + m) + " 0 0 " + (m + 1) + ";" : "");
            }
            LockstepRoom x = Check.loaded(text.toString());
            x.tick();
            // those without a fault win; where each one is a group of its own, a wins
            int due = Integer.bitCount(wrong) >= 5 ? 62 : wrong;
            check.due("wrongMembers of " + wrong, x.wrongMembers(), due);
            for (int m = 0; m < 6; m++) {
                check.due("isWrong(" + m + ") of " + wrong, x.isWrong(m), (due >> m & 1) != 0);
            }
        }
    }

    private static void donorFor() {
        check.about("Promise 26: NOT_FOUND if there is none; throws if member is not a valid index");
        index("donorFor", BUSY, (x, m) -> x.donorFor(m), 4);
        index("donorFor", ALL, (x, m) -> x.donorFor(m), 6);
        index("donorFor", NEW, (x, m) -> x.donorFor(m), 0);
        // a and b are at 3, with other cells: a wins; d alone is at 2 and active, c left there
        int[] due = {NONE, 0, 3, NONE};
        for (int m = 0; m < 4; m++) {
            check.due("donorFor(" + m + ")", busy().donorFor(m), due[m]);
        }
    }

    private static void whyNot() {
        check.about("Promise 27: the first of these reasons that applies; throws if member is not a valid index");
        index("whyNot", BUSY, (x, m) -> x.whyNot(m), 4);
        index("whyNot", NEW, (x, m) -> x.whyNot(m), 0);
        Snapshot.Recipe room = () -> {
            LockstepRoom x = Check.loaded(SIX + "set quorum 3;fault b 0 0 1;seal;seal;");
            x.tick();
            return x;
        };
        LockstepRoom x = room.make();
        check.due("it can be healed", x.whyNot(1), 0);
        check.due("it is not wrong", x.whyNot(0), 3);
        check.due("it is not wrong, and has no donor", aloneInItsGroup().whyNot(0), 3);
        for (int m = 2; m < 6; m++) {
            x.run(m, 1);
        }
        x.leave(0);
        check.due("there is no donor", x.whyNot(1), 4);
        x.setSetting(QUORUM, 6);
        check.due("there is no vote", x.whyNot(1), 2);
        check.due("there is no vote, and it is not wrong", x.whyNot(2), 2);
        x.leave(1);
        check.due("it left, and there is no vote", x.whyNot(1), 1);
        x.setSetting(QUORUM, 1);
        check.due("it left, and is not wrong therefore", x.whyNot(1), 1);
        check.due("it left, not being wrong", x.whyNot(0), 1);
        // an empty reason is the answer for those whom heal heals, and for no others
        for (int m = 0; m < 6; m++) {
            LockstepRoom y = room.make();
            check.due("whyNot and heal of " + m, y.whyNot(m) == 0, y.heal(m) > 0);
        }
    }

    private static LockstepRoom aloneInItsGroup() {
        LockstepRoom x = Check.loaded("set quorum 1;member a 1;");
        check.due("no donor", x.donorFor(0), NONE);
        return x;
    }

    private static void reached() {
        check.about("Promise 28: NOT_FOUND if no member is active");
        LockstepRoom x = Check.loaded("member a 1;member b 1;" + "seal;".repeat(40));
        check.due("least", x.reached(false), 0);
        check.due("greatest", x.reached(true), 0);
        x.run(0, 40);
        check.due("least", x.reached(false), 0);
        check.due("greatest", x.reached(true), 40);
        x.leave(1);
        check.due("least without b", x.reached(false), 40);
        x.undo();
        x.leave(0);
        check.due("greatest without a", x.reached(true), 0);
        x.leave(1);
        check.due("least of nobody", x.reached(false), NONE);
        check.due("greatest of nobody", x.reached(true), NONE);
    }

    private static void mayRun() {
        check.about("Promise 29: 0 also if it has come further than it may by now; 0 if it left; throws if member is not a valid index");
        index("mayRun", BUSY, (x, m) -> x.mayRun(m), 4);
        index("mayRun", ALL, (x, m) -> x.mayRun(m), 6);
        index("mayRun", NEW, (x, m) -> x.mayRun(m), 0);
        int[] full = {37, 38, 40, 40, 0, 0};
        for (int m = 0; m < 6; m++) {
            check.due("mayRun(" + m + ") of a full room", full().mayRun(m), full[m]);
        }
        LockstepRoom x = full();
        for (int lag = 40; lag >= 1; lag--) {
            x.setSetting(LAG, lag);
            check.due("mayRun(0) with lag " + lag, x.mayRun(0), Math.max(0, lag - 3));
            check.due("mayRun(2) with lag " + lag, x.mayRun(2), lag);
            check.due("mayRun(5) with lag " + lag, x.mayRun(5), 0);
        }
    }

    private static void meanTurns() {
        check.about("Promise 30: 0 if no member is active; the sum of these numbers divided by the number of active members, both converted to double");
        LockstepRoom x = Check.loaded(SIX + "seal;".repeat(40));
        x.run(0, 40);
        check.due("mean", x.meanTurns(), 40.0 / 6.0);
        x.run(1, 1);
        check.due("mean", x.meanTurns(), 41.0 / 6.0);
        x.leave(0);
        check.due("mean", x.meanTurns(), 1.0 / 5.0);
        x.leave(2);
        x.leave(3);
        check.due("mean", x.meanTurns(), 1.0 / 3.0);
        x.leave(4);
        x.leave(5);
        check.due("mean", x.meanTurns(), 1.0);
        x.leave(1);
        check.due("mean of nobody", x.meanTurns(), 0.0);
    }

    private static void truth() {
        check.about("Promise 31: NOT_FOUND if turn is out of range; throws if cell is not a valid index (checked first)");
        for (int turn : new int[] {-1, 0, 3, 4}) {
            index("truth(" + turn + ", cell)", BUSY, (x, c) -> x.truth(turn, c), 16);
        }
        for (int cell : new int[] {0, 15}) {
            outside("truth(turn, " + cell + ")", BUSY, (x, turn) -> x.truth(turn, cell), NONE, -1, 4, 41, LEAST, GREATEST);
            outside("truth(turn, " + cell + ")", ALL, (x, turn) -> x.truth(turn, cell), NONE, -1, 41, LEAST, GREATEST);
            outside("truth(turn, " + cell + ")", NEW, (x, turn) -> x.truth(turn, cell), NONE, -1, 1, LEAST, GREATEST);
        }
        int[] cell0 = {5, 6, 6, 6};
        int[] cell1 = {6, 6, 36, 36};
        int[] cell15 = {0, 0, 6, 6};
        for (int turn = 0; turn < 4; turn++) {
            check.due("truth(" + turn + ", 0)", busy().truth(turn, 0), cell0[turn]);
            check.due("truth(" + turn + ", 1)", busy().truth(turn, 1), cell1[turn]);
            check.due("truth(" + turn + ", 4), without the fault", busy().truth(turn, 4), 0);
            check.due("truth(" + turn + ", 15)", busy().truth(turn, 15), cell15[turn]);
        }
        check.due("truth(40, 0)", full().truth(40, 0), 0);
    }

    private static void trueMembers() {
        check.about("Promise 32: the members, also those who left, whose cells are all as they are in truth");
        check.due("of nobody", new LockstepRoom().trueMembers(), 0);
        check.due("of a busy room", busy().trueMembers(), 1 | 4 | 8);
        check.due("of a full room", full().trueMembers(), 63);
        // the truth is another one behind each turn: a has it behind its own number of turns, b that of another number
        LockstepRoom y = Check.loaded("member a 1;member b 1;fault b 0 0 1;fault b 1 0 9998;" + "do a add 0 1;seal;".repeat(4));
        check.due("at 0 and 0", y.trueMembers(), 3);
        y.run(1, 1);
        check.due("at 0 and 1", y.trueMembers(), 1);
        y.run(0, 1);
        check.due("at 1 and 1", y.trueMembers(), 1);
        y.run(1, 1);
        check.due("at 1 and 2", y.trueMembers(), 1);
        check.due("cell of b", y.cellOf(1, 0), 1);
        y.run(0, 3);
        check.due("at 4 and 2", y.trueMembers(), 1);
        for (int cell = 0; cell < 16; cell++) {
            LockstepRoom x = Check.loaded("member a 1;member b 1;" + "fault a 39 " + cell + " 1;" + "seal;".repeat(40));
            x.run(0, 39);
            check.due("ahead of a fault", x.trueMembers(), 3);
            x.run(0, 1);
            check.due("behind a fault of cell " + cell, x.trueMembers(), 2);
            x.leave(1);
            check.due("with one who left", x.trueMembers(), 2);
        }
    }

    private static void foreseen() {
        check.about("Promise 33: throws if member or cell is not a valid index");
        index("foreseen(member, 0)", BUSY, (x, m) -> x.foreseen(m, 0), 4);
        index("foreseen(member, 15)", ALL, (x, m) -> x.foreseen(m, 15), 6);
        index("foreseen(0, cell)", BUSY, (x, c) -> x.foreseen(0, c), 16);
        index("foreseen(3, cell)", BUSY, (x, c) -> x.foreseen(3, c), 16);
        refused("foreseen(9, 16)", BUSY, x -> x.foreseen(9, 16), THROWS);
        check.about("Promise 33: what a cell of a member would be if it executed all turns that are sealed, with the faults that wait for it");
        LockstepRoom x = Check.loaded("start 9999;member a 1;set lag 1;fault a 0 0 1;fault a 39 0 9998;fault a 39 0 1;" + "do a add 1 300;seal;".repeat(40));
        check.due("modulo 10000, though lag is 1", x.foreseen(0, 0), 9999);
        check.due("40 turns", x.foreseen(0, 1), 2000);
        x.setSetting(LAG, 40);
        x.run(0, 39);
        check.due("ahead of the last turn", x.foreseen(0, 0), 9999);
        x.run(0, 1);
        check.due("behind all turns", x.foreseen(0, 0), 9999);
        LockstepRoom y = Check.loaded("member a 1;fault a 1 0 1;seal;");
        check.due("without a turn that is not sealed", y.foreseen(0, 0), 0);
        y.seal();
        check.due("with it", y.foreseen(0, 0), 1);
        check.due("it waits on", y.count(3), 1);
    }

    private static void lastWrite() {
        check.about("Promise 34: NOT_FOUND if there is none; throws if member or cell is not a valid index");
        index("lastWrite(member, 0)", BUSY, (x, m) -> x.lastWrite(m, 0), 4);
        index("lastWrite(member, 15)", ALL, (x, m) -> x.lastWrite(m, 15), 6);
        index("lastWrite(0, cell)", BUSY, (x, c) -> x.lastWrite(0, c), 16);
        refused("lastWrite(9, 16)", BUSY, x -> x.lastWrite(9, 16), THROWS);
        check.due("lastWrite(3, 0), ahead of joining", busy().lastWrite(3, 0), 0);
        check.due("lastWrite(3, 15), ahead of joining", busy().lastWrite(3, 15), 1);
        check.due("lastWrite(3, 4), by a fault alone", busy().lastWrite(1, 4), NONE);
        check.about("Promise 34: the latest of the turns that a member has executed, whether the cell gets another number by it or not");
        LockstepRoom x = Check.loaded("member a 1;" + "do a add 0 0;seal;".repeat(40));
        for (int turn = 0; turn < 40; turn++) {
            check.due("lastWrite at " + turn, x.lastWrite(0, 0), turn == 0 ? NONE : turn - 1);
            x.run(0, 1);
        }
        check.due("lastWrite at 40", x.lastWrite(0, 0), 39);
        check.due("lastWrite of another cell", x.lastWrite(0, 15), NONE);
    }

    private static void give() {
        check.about("Promise 35: NOT_FOUND if author is not a valid index; BAD_VALUE if sort, cell or operand is out of range; NOT_ALLOWED if the author left; FULL if the open turn has 8 commands; checked in this order");
        // in a full room all four apply to those who left, and the last one to those who are active
        for (int author : new int[] {-1, 6, LEAST, GREATEST}) {
            refused("give by " + author, ALL, x -> x.give(author, 6, 16, -1), NONE);
            refused("give by " + author, ALL, x -> x.give(author, 0, 0, 0), NONE);
        }
        refused("give by one that is none", BUSY, x -> x.give(4, 0, 0, 0), NONE);
        for (int author : new int[] {0, 5}) {
            outside("give of sort", ALL, (x, sort) -> x.give(author, sort, 0, 0), BAD, -1, 6, LEAST, GREATEST);
            outside("give of cell", ALL, (x, cell) -> x.give(author, 0, cell, 0), BAD, -1, 16, LEAST, GREATEST);
            for (int sort = 0; sort < 6; sort++) {
                int of = sort;
                int greatest = sort < 2 ? 9999 : 15;
                outside("give of sort " + of + " with operand", ALL, (x, operand) -> x.give(author, of, 0, operand), BAD, -1, greatest + 1, LEAST, GREATEST);
                refused("give by " + author + " of sort " + of, ALL, x -> x.give(author, of, 15, greatest), author == 5 ? NOT_ALLOWED : FULL);
            }
        }
        outside("give of operand", BUSY, (x, operand) -> x.give(0, LockstepRoom.PUT, 0, operand), BAD, -1, 10000);
        outside("give of operand", BUSY, (x, operand) -> x.give(0, LockstepRoom.SWAP, 0, operand), BAD, -1, 16);
        refused("give by one who left", BUSY, x -> x.give(2, 0, 0, 0), NOT_ALLOWED);
        for (int sort = 0; sort < 6; sort++) {
            int greatest = sort < 2 ? 9999 : 15;
            LockstepRoom x = Check.loaded("member a 1;member b 1;");
            check.due("give", x.give(1, sort, 15, greatest), 1);
            check.due("give", x.give(1, sort, 0, 0), 2);
            check.due("give", x.give(0, sort, 15, 0), 3);
            x.seal();
            int[] due = {1, sort, 15, greatest};
            for (int what = 0; what < 4; what++) {
                check.due("command(0, 1, " + what + ")", x.command(0, 1, what), due[what]);
            }
        }
    }

    private static void seal() {
        check.about("Promise 36: FULL if there are 40 already");
        refused("seal", ALL, x -> x.seal(), FULL);
        LockstepRoom x = Check.loaded("seal;".repeat(39));
        check.due("a 40th", x.seal(), 40);
        check.due("a 41st", x.seal(), FULL);
        check.due("undo", x.undo(), 0);
        check.due("a 40th again", x.seal(), 40);
        LockstepRoom y = new LockstepRoom();
        for (int turn = 1; turn <= 40; turn++) {
            check.due("seal in a room without members", y.seal(), turn);
        }
        check.due("a 41st", y.seal(), FULL);
    }

    private static void run() {
        check.about("Promise 37: NOT_FOUND if member is not a valid index; BAD_VALUE if turns is out of range; NOT_ALLOWED if it left; checked in this order");
        for (int member : new int[] {-1, 4, LEAST, GREATEST}) {
            refused("run of " + member, BUSY, x -> x.run(member, 0), NONE);
            refused("run of " + member, BUSY, x -> x.run(member, 1), NONE);
        }
        for (int member : new int[] {1, 2}) {
            outside("run(" + member + ", turns)", BUSY, (x, turns) -> x.run(member, turns), BAD, -1, 0, 41, LEAST, GREATEST);
        }
        refused("run of one who left", BUSY, x -> x.run(2, 1), NOT_ALLOWED);
        refused("run of one who left", BUSY, x -> x.run(2, 40), NOT_ALLOWED);
        check.about("Promise 37: as many as told, but at most as many as it may");
        for (int turns : new int[] {1, 2, 39, 40}) {
            LockstepRoom x = Check.loaded("member a 1;" + "do a add 0 1;seal;".repeat(39));
            check.due("run(0, " + turns + ")", x.run(0, turns), Math.min(turns, 39));
            check.due("cell", x.cellOf(0, 0), Math.min(turns, 39));
            check.due("run(0, 40)", x.run(0, 40), 39 - Math.min(turns, 39));
        }
    }

    private static void tick() {
        check.about("Promise 38: each one as many as its pace, but at most as many as it may");
        LockstepRoom x = Check.loaded("member a 1;member b 2;member c 3;member d 4;member e 4;" + "do a add 0 1;seal;".repeat(10));
        x.leave(4);
        int[][] due = {{10, 1, 2, 3, 4}, {10, 2, 4, 6, 8}, {8, 3, 6, 9, 10}, {4, 4, 8, 10, 10}, {3, 5, 10, 10, 10}, {1, 6, 10, 10, 10}};
        for (int[] d : due) {
            check.due("tick", x.tick(), d[0]);
            for (int m = 0; m < 4; m++) {
                check.due("executed by " + m, x.memberNumber(m, 1), d[m + 1]);
                check.due("cell of " + m, x.cellOf(m, 0), d[m + 1]);
            }
            check.due("executed by one who left", x.memberNumber(4, 1), 0);
        }
        LockstepRoom y = Check.loaded("member a 1;member b 3;set lag 2;" + "seal;".repeat(10));
        check.due("no more than lag beyond the least", y.tick(), 3);
        check.due("no more than lag beyond the least", y.tick(), 2);
        check.due("executed by b", y.memberNumber(1, 1), 3);
        check.due("of nobody", new LockstepRoom().tick(), 0);
        // one who is beyond what it may does not go back and counts nothing
        LockstepRoom z = Check.loaded("member a 1;member b 4;" + "seal;".repeat(10));
        z.run(1, 9);
        z.setSetting(LAG, 2);
        check.due("tick", z.tick(), 1);
        check.due("executed by b", z.memberNumber(1, 1), 9);
    }

    private static void fault() {
        check.about("Promise 39: NOT_FOUND if member is not a valid index; BAD_VALUE if turn, cell or amount is out of range; NOT_ALLOWED if the member left or has executed the turn; FULL if 10 faults are waiting; checked in this order");
        for (int member : new int[] {-1, 6, LEAST, GREATEST}) {
            refused("fault of " + member, ALL, x -> x.fault(member, 40, 16, 0), NONE);
            refused("fault of " + member, ALL, x -> x.fault(member, 39, 0, 1), NONE);
        }
        // 0 has executed three turns, 5 left
        for (int member : new int[] {0, 5}) {
            outside("fault in turn", ALL, (x, turn) -> x.fault(member, turn, 0, 1), BAD, -1, 40, LEAST, GREATEST);
            outside("fault of cell", ALL, (x, cell) -> x.fault(member, 0, cell, 1), BAD, -1, 16, LEAST, GREATEST);
            outside("fault of amount", ALL, (x, amount) -> x.fault(member, 0, 0, amount), BAD, -1, 0, 10000, LEAST, GREATEST);
        }
        outside("fault in a turn of one who left", ALL, (x, turn) -> x.fault(5, turn, 0, 1), NOT_ALLOWED, 0, 39);
        outside("fault in a turn that it has executed", ALL, (x, turn) -> x.fault(0, turn, 0, 1), NOT_ALLOWED, 0, 1, 2);
        outside("an 11th fault", ALL, (x, turn) -> x.fault(0, turn, 0, 1), FULL, 3, 4, 39);
        outside("fault of amount", BUSY, (x, amount) -> x.fault(1, 39, 0, amount), BAD, 0, 10000);
        // one who joined at 2: the turns ahead of this count as executed
        outside("fault of one who joined in turn", BUSY, (x, turn) -> x.fault(3, turn, 0, 1), NOT_ALLOWED, 0, 1);
        check.due("fault of one who joined in turn 2", busy().fault(3, 2, 0, 1), 2);
        for (int[] f : new int[][] {{3, 0, 1}, {39, 15, 9999}, {39, 0, 9999}, {3, 15, 1}}) {
            LockstepRoom x = full();
            x.leave(3);
            check.due("no fault waits", x.count(3), 0);
            check.due("fault", x.fault(0, f[0], f[1], f[2]), 1);
            int[] due = {0, f[0], f[1], f[2]};
            for (int what = 0; what < 4; what++) {
                check.due("faultNumber(0, " + what + ")", x.faultNumber(0, what), due[what]);
            }
        }
        LockstepRoom end = Check.loaded("member a 1;" + "seal;".repeat(40));
        end.run(0, 39);
        check.due("fault of the last turn", end.fault(0, 39, 0, 1), 1);
        end.run(0, 1);
        check.due("fault of the last turn, executed", end.fault(0, 39, 0, 1), NOT_ALLOWED);
    }

    private static void heal() {
        check.about("Promise 40: NOT_FOUND if member is not a valid index; NOT_ALLOWED if it cannot be healed (see whyNot)");
        for (int member : new int[] {-1, 4, LEAST, GREATEST}) {
            refused("heal of " + member, BUSY, x -> x.heal(member), NONE);
        }
        refused("heal of one who is not wrong", BUSY, x -> x.heal(0), NOT_ALLOWED);
        refused("heal of one who left", BUSY, x -> x.heal(2), NOT_ALLOWED);
        refused("heal of one who joined and is not wrong", BUSY, x -> x.heal(3), NOT_ALLOWED);
        refused("heal without a vote", Snapshot.then(BUSY, x -> x.setSetting(QUORUM, 6)), x -> x.heal(1), NOT_ALLOWED);
        check.due("whyNot", NO_DONOR.make().whyNot(1), 4);
        refused("heal without a donor", NO_DONOR, x -> x.heal(1), NOT_ALLOWED);
        check.due("heal", busy().heal(1), 1);
        refused("heal once more", Snapshot.then(BUSY, x -> x.heal(1)), x -> x.heal(1), NOT_ALLOWED);
    }

    private static void healAll() {
        check.about("Promise 41: NOT_FOUND if there were none (nothing changes then)");
        refused("healAll of nobody", NEW, x -> x.healAll(), NONE);
        refused("healAll without a donor", NO_DONOR, x -> x.healAll(), NONE);
        refused("healAll without a vote", Snapshot.then(BUSY, x -> x.setSetting(QUORUM, 6)), x -> x.healAll(), NONE);
        refused("healAll of those who are right", ALL, x -> x.healAll(), NONE);
        check.due("healAll", busy().healAll(), 1);
        refused("healAll once more", Snapshot.then(BUSY, x -> x.healAll()), x -> x.healAll(), NONE);
        check.about("Promise 41: all members that can be healed, in ascending order of their indices; whether one can is looked at when it is its turn");
        LockstepRoom first = Check.loaded(SIX + "fault a 0 0 1;fault b 0 0 2;fault f 0 0 3;seal;");
        first.tick();
        check.due("healAll", first.healAll(), 3);
        // a by c, b by a, f by b: those who were healed are donors with the lowest index that gave none
        int[] given = {1, 1, 1, 0, 0, 0};
        for (int m = 0; m < 6; m++) {
            check.due("given by " + m, first.memberNumber(m, 3), given[m]);
            check.due("healed " + m, first.memberNumber(m, 5), m < 2 || m == 5 ? 1 : 0);
        }
        check.about("Promise 41: This is one change");
        Snapshot.Recipe five = () -> {
            LockstepRoom x = Check.loaded(SIX + "set quorum 1;fault b 0 0 1;fault c 0 0 2;fault d 0 0 3;fault e 0 0 4;fault f 0 0 5;seal;");
            x.tick();
            return x;
        };
        LockstepRoom x = five.make();
        check.due("healAll", x.healAll(), 5);
        check.due("undoCount", x.undoCount(), 2);
        int[] gave = {1, 1, 1, 1, 1, 0};
        for (int m = 0; m < 6; m++) {
            // b by a, c by b, d by c and so on, as those who were healed have given none by then
            check.due("given by " + m, x.memberNumber(m, 3), gave[m]);
            check.due("healed " + m, x.memberNumber(m, 5), m == 0 ? 0 : 1);
        }
        check.due("the room behind undo", Snapshot.of(Snapshot.then(Snapshot.then(five, y -> y.healAll()), y -> y.undo())), Snapshot.of(five));
    }

    private static void join() {
        check.about("Promise 42: BAD_VALUE if pace is out of range; FULL if there are 6 members, also those who left; NOT_ALLOWED if there is no donor; checked in this order");
        for (int pace : new int[] {-1, 0, 5, LEAST, GREATEST}) {
            refused("join(" + pace + ") to nobody", NEW, x -> x.join(pace), BAD);
            refused("join(" + pace + ")", BUSY, x -> x.join(pace), BAD);
            refused("join(" + pace + ") to six", ALL, x -> x.join(pace), BAD);
        }
        for (int pace = 1; pace <= 4; pace++) {
            int of = pace;
            refused("join(" + pace + ") to nobody", NEW, x -> x.join(of), NOT_ALLOWED);
            refused("join(" + pace + ") to six", ALL, x -> x.join(of), FULL);
            refused("join(" + pace + ") to six without a vote", Snapshot.then(ALL, x -> x.setSetting(QUORUM, 6)), x -> x.join(of), FULL);
            refused("join(" + pace + ") without a vote", Snapshot.then(BUSY, x -> x.setSetting(QUORUM, 6)), x -> x.join(of), NOT_ALLOWED);
            LockstepRoom x = busy();
            check.due("join(" + pace + ")", x.join(pace), 4);
            check.due("pace", x.memberNumber(4, 0), pace);
            check.due("executed", x.memberNumber(4, 1), 2);
        }
        refused("join without a donor", NO_DONOR, x -> x.join(1), NOT_ALLOWED);
    }

    private static void leave() {
        check.about("Promise 43: NOT_FOUND if member is not a valid index; NOT_ALLOWED if it left already; checked in this order");
        for (int member : new int[] {-1, 4, LEAST, GREATEST}) {
            refused("leave of " + member, BUSY, x -> x.leave(member), NONE);
        }
        refused("leave of one who left", BUSY, x -> x.leave(2), NOT_ALLOWED);
        refused("leave of one who left", ALL, x -> x.leave(5), NOT_ALLOWED);
        refused("leave of nobody", NEW, x -> x.leave(0), NONE);
        check.about("Promise 43: What waits of its faults is taken away");
        for (int gone = 0; gone < 3; gone++) {
            LockstepRoom x = Check.loaded("member a 1;member b 1;member c 1;fault a 0 0 1;fault b 0 1 2;fault c 39 2 3;fault a 39 3 4;fault b 1 4 5;fault c 0 5 6;");
            check.due("leave", x.leave(gone), 2);
            check.due("waiting", x.count(3), 4);
            int f = 0;
            for (int k = 0; k < 6; k++) {
                if (k % 3 != gone) {
                    check.due("member of fault " + f, x.faultNumber(f, 0), k % 3);
                    check.due("cell of fault " + f, x.faultNumber(f, 2), k);
                    check.due("amount of fault " + f, x.faultNumber(f, 3), k + 1);
                    f++;
                }
            }
            check.noIndex("behind the last one", () -> x.faultNumber(4, 0));
        }
        LockstepRoom all = Check.loaded("member a 1;member b 1;" + "fault a 39 15 9999;".repeat(10));
        check.due("leave", all.leave(0), 1);
        check.due("all ten", all.count(3), 0);
        check.due("the last one leaves", all.leave(1), 0);
    }

    private static void setSetting() {
        check.about("Promise 44: BAD_VALUE if setting is neither or value is out of its range");
        for (int setting : new int[] {-1, 2, LEAST, GREATEST}) {
            for (int value : new int[] {0, 1, 6, 41}) {
                refused("setSetting(" + setting + ", " + value + ")", BUSY, x -> x.setSetting(setting, value), BAD);
            }
        }
        outside("setSetting(LAG)", BUSY, (x, value) -> x.setSetting(LAG, value), BAD, -1, 0, 41, LEAST, GREATEST);
        outside("setSetting(QUORUM)", BUSY, (x, value) -> x.setSetting(QUORUM, value), BAD, -1, 0, 7, 40, LEAST, GREATEST);
        check.about("Promise 44: Returns the previous value");
        LockstepRoom x = busy();
        check.due("lag", x.setSetting(LAG, 1), 20);
        check.due("lag", x.setSetting(LAG, 40), 1);
        check.due("lag", x.setSetting(LAG, 40), 40);
        check.due("quorum", x.setSetting(QUORUM, 6), 1);
        check.due("quorum", x.setSetting(QUORUM, 1), 6);
        check.due("lag", x.getSetting(LAG), 40);
    }

    private static void undo() {
        check.about("Promise 45: NOT_FOUND if there is none to undo");
        refused("undo in a new room", NEW, x -> x.undo(), NONE);
        refused("undo behind load", () -> Check.loaded("member a 1;seal;"), x -> x.undo(), NONE);
        LockstepRoom x = busy();
        for (int left = 9; left >= 0; left--) {
            check.due("undo", x.undo(), left);
        }
        check.due("undo", x.undo(), NONE);
        refused("undo of all and one more", () -> {
            LockstepRoom y = busy();
            for (int n = 0; n < 10; n++) {
                y.undo();
            }
            return y;
        }, y -> y.undo(), NONE);
    }

    private static void write() {
        check.about("Promise 46: replacing its content: its name (or a * if it has none), a colon, and then for each cell a space and the number in it");
        LockstepRoom x = Check.loaded("start" + " 9999".repeat(16) + ";member zzzzzz 1;member a 1;do a put 0 0;seal;");
        check.due("the longest", x.write(0), 6 + 1 + 16 * 5);
        check.due("its last character", x.outputAt(86), '9');
        check.due("behind it", x.outputAt(87), NONE);
        check.due("a", x.write(1), 1 + 1 + 16 * 5);
        check.due("what was longer is gone", x.outputAt(82), NONE);
        check.due("write", Check.written(x, 1), "a:" + " 9999".repeat(16));
        x.join(1);
        check.due("one who joined", Check.written(x, 2), "*:" + " 9999".repeat(16));
        x.run(2, 1);
        check.due("one who joined", Check.written(x, 2), "*: 0" + " 9999".repeat(15));
        LockstepRoom y = Check.loaded("member a 1;member abcdef 1;");
        check.due("the shortest", y.write(0), 1 + 1 + 16 * 2);
        check.due("write", Check.written(y, 1), "abcdef:" + " 0".repeat(16));
        check.about("Promise 46: throws if member is not a valid index");
        for (int member : new int[] {-1, 4, LEAST, GREATEST}) {
            refused("write of " + member, BUSY, z -> z.write(member), THROWS);
        }
    }

    private static void outputAt() {
        check.about("Promise 47: NOT_FOUND if there is none with that index");
        outside("outputAt", NEW, (x, at) -> x.outputAt(at), NONE, -1, 0, 1, LEAST, GREATEST);
        outside("outputAt", BUSY, (x, at) -> x.outputAt(at), NONE, -1, busy().write(1), LEAST, GREATEST);
        String due = "b: 6 36 0 0 9 0 0 0 0 0 0 0 0 0 0 6";
        LockstepRoom x = busy();
        for (int at = 0; at < due.length(); at++) {
            check.due("outputAt(" + at + ")", x.outputAt(at), due.charAt(at));
        }
        check.due("behind the last one", x.outputAt(due.length()), NONE);
    }

    private static void questionsChangeNothing() {
        check.about("The methods give, seal, run, tick, fault, heal, healAll, join, leave and setSetting make changes");
        Snapshot.Step[] questions = {x -> x.errorPosition(), x -> x.count(0), x -> x.undoCount(), x -> x.memberNamed(1 << 25), x -> x.memberNumber(0, 1), x -> x.getSetting(0),
            x -> x.cellOf(1, 4), x -> x.commandCount(0), x -> x.command(0, 0, 0), x -> x.faultNumber(0, 0), x -> x.checksum(1, 1), x -> x.rootAt(1, 1),
            x -> x.firstWrongTurn(0, 1), x -> x.halvedTurn(0, 1), x -> number(x.isHalvingRight(0, 1)), x -> x.firstWrongCell(0, 1), x -> x.wrongCells(0, 1),
            x -> x.comparisons(0, 1), x -> x.votes(0, 1), x -> x.winner(1), x -> number(x.isWrong(1)), x -> x.wrongMembers(), x -> x.donorFor(1), x -> x.whyNot(1),
            x -> x.reached(true), x -> x.mayRun(3), x -> (long) x.meanTurns(), x -> x.truth(3, 0), x -> x.trueMembers(), x -> x.foreseen(0, 0), x -> x.lastWrite(0, 0),
            x -> x.outputAt(0), x -> x.write(1)};
        for (int k = 0; k < questions.length; k++) {
            int of = k;
            check.due("the room behind question " + k, Snapshot.of(Snapshot.then(BUSY, x -> questions[of].make(x))), Snapshot.of(BUSY));
        }
        check.about("feed and load are no changes that undo knows");
        Snapshot.Recipe fed = Snapshot.then(BUSY, x -> x.feed(0x7365616c, 0x3b202020, 0, 0, 0));
        check.due("undoCount behind feed", fed.make().undoCount(), 10);
        check.due("the room behind feed", Snapshot.room(fed), Snapshot.room(BUSY));
    }
}
