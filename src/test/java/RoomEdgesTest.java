import java.util.Random;

/** The edges of the document's description (but for the text format), sentence by sentence. */
public final class RoomEdgesTest {
    private static final Check check = new Check();
    private static final int NONE = LockstepRoom.NOT_FOUND;
    private static final int LAG = LockstepRoom.LAG;
    private static final int QUORUM = LockstepRoom.QUORUM;
    private static final int PUT = LockstepRoom.PUT;
    private static final String[] SORTS = {"put", "add", "copy", "sum", "swap", "mul"};
    private static final String SIX = "member a 1;member b 1;member c 1;member d 1;member e 1;member f 1;";

    public static void main(String[] args) {
        members();
        changes();
        commands();
        turns();
        faults();
        checksums();
        halving();
        votes();
        healing();
        joining();
        check.finish();
    }

    private static String cells(LockstepRoom x, int member) {
        StringBuilder cells = new StringBuilder();
        for (int c = 0; c < 16; c++) {
            cells.append(c == 0 ? "" : " ").append(x.cellOf(member, c));
        }
        return cells.toString();
    }

    private static String zerosBut(int cell, int number) {
        StringBuilder cells = new StringBuilder();
        for (int c = 0; c < 16; c++) {
            cells.append(c == 0 ? "" : " ").append(c == cell ? number : 0);
        }
        return cells.toString();
    }

    // ---- MEMBERS

    private static void members() {
        atMostSixMembers();
        inTheOrderInWhichTheyCame();
        sixteenCells();
        allBeginWithTheSameNumbers();
        activeUntilItLeaves();
        moduloTenThousand();
        settings();
    }

    private static void atMostSixMembers() {
        check.about("There are at most 6 members");
        LockstepRoom x = Check.loaded("set quorum 1;" + SIX.substring(0, 11));
        for (int m = 1; m < 6; m++) {
            check.due("join", x.join(1), m);
            check.due("members", x.count(0), m + 1);
        }
        check.due("a seventh", x.join(1), LockstepRoom.FULL);
        check.due("members", x.count(0), 6);
        check.due("pace of the sixth", x.memberNumber(5, 0), 1);
        check.noIndex("pace of a seventh", () -> x.memberNumber(6, 0));
        x.undo();
        check.due("members", x.count(0), 5);
        check.due("a sixth again", x.join(2), 5);
        check.due("a seventh again", x.join(2), LockstepRoom.FULL);
        LockstepRoom y = Check.loaded(SIX);
        check.due("a seventh behind six of the text", y.join(1), LockstepRoom.FULL);
        for (int m = 0; m < 6; m++) {
            y.leave(m);
            check.due("a seventh when some left", y.join(1), LockstepRoom.FULL);
        }
        check.due("those who left count", y.count(0), 6);
    }

    private static void inTheOrderInWhichTheyCame() {
        check.about("indexed from 0 in the order in which they came");
        LockstepRoom x = Check.loaded("member zz 4;seal;member a 3;member m 2;");
        check.due("zz", x.memberNamed(Check.letters("zz")), 0);
        check.due("a", x.memberNamed(Check.letters("a")), 1);
        check.due("m", x.memberNamed(Check.letters("m")), 2);
        check.due("join", x.join(1), 3);
        for (int m = 0; m < 4; m++) {
            check.due("pace of " + m, x.memberNumber(m, 0), 4 - m);
        }
        x.leave(1);
        check.due("m behind one who left", x.memberNamed(Check.letters("m")), 2);
        check.due("join behind one who left", x.join(1), 4);
    }

    private static void sixteenCells() {
        check.about("each one has 16 cells, indexed from 0, with a number of 0 to 9999 in each");
        LockstepRoom x = Check.loaded("start 9999 1 2 3 4 5 6 7 8 9 10 11 12 13 14 9998;" + SIX);
        for (int m : new int[] {0, 5}) {
            check.due("cells of " + m, cells(x, m), "9999 1 2 3 4 5 6 7 8 9 10 11 12 13 14 9998");
            for (int bad : new int[] {-1, 16, Integer.MIN_VALUE, Integer.MAX_VALUE}) {
                check.noIndex("cellOf(" + m + ", " + bad + ")", () -> x.cellOf(m, bad));
            }
        }
        x.give(0, PUT, 15, 0);
        x.give(0, PUT, 0, 9999);
        x.seal();
        x.run(0, 1);
        check.due("cell 0", x.cellOf(0, 0), 9999);
        check.due("cell 15", x.cellOf(0, 15), 0);
    }

    private static void allBeginWithTheSameNumbers() {
        check.about("All begin with the same numbers");
        LockstepRoom x = Check.loaded("member a 1;start 3 0 9999;member b 4;");
        check.due("a", cells(x, 0), "3 0 9999 0 0 0 0 0 0 0 0 0 0 0 0 0");
        check.due("b", cells(x, 1), cells(x, 0));
        check.due("records", x.rootAt(0, 0), x.rootAt(1, 0));
        check.due("votes", x.votes(0, 0), 2);
    }

    private static void activeUntilItLeaves() {
        check.about("A member is active until it leaves");
        LockstepRoom x = Check.loaded(SIX);
        for (int m = 5; m >= 0; m--) {
            check.due("active", x.memberNumber(m, 2), 1);
            check.due("leave", x.leave(m), m);
            check.due("left", x.memberNumber(m, 2), 0);
            check.due("leave again", x.leave(m), LockstepRoom.NOT_ALLOWED);
        }
        check.due("join to nobody", x.join(1), LockstepRoom.FULL);
        check.due("tick of nobody", x.tick(), 0);
        check.due("healAll of nobody", x.healAll(), NONE);
        check.due("wrongMembers of nobody", x.wrongMembers(), 0);
        check.due("mean of nobody", x.meanTurns(), 0.0);
    }

    /** What a cell is behind one command of a room with one member. */
    private static int behind(int first, int second, String command, int cell) {
        LockstepRoom x = Check.loaded("start " + first + " " + second + ";member a 1;do a " + command + ";seal;");
        x.run(0, 1);
        check.due("truth behind " + command, x.truth(1, cell), x.cellOf(0, cell));
        return x.cellOf(0, cell);
    }

    private static void moduloTenThousand() {
        check.about("Sums and products of cells are taken modulo 10000");
        int[][] pairs = {{0, 0}, {0, 9999}, {9999, 0}, {1, 9998}, {1, 9999}, {9999, 1}, {2, 9999}, {9999, 9999}, {5000, 5000}, {4999, 5000}, {5000, 5001},
            {100, 100}, {100, 99}, {101, 100}, {2, 5000}, {3, 3333}, {3, 3334}, {1, 1}, {9998, 9999}, {8191, 8193}};
        for (int[] p : pairs) {
            int sum = (p[0] + p[1]) % 10000;
            int product = (int) ((long) p[0] * p[1] % 10000);
            check.due(p[0] + " and add " + p[1], behind(p[0], 0, "add 0 " + p[1], 0), sum);
            check.due(p[0] + " and sum " + p[1], behind(p[0], p[1], "sum 0 1", 0), sum);
            check.due(p[0] + " and sum " + p[1] + ", the operand's cell", behind(p[0], p[1], "sum 0 1", 1), p[1]);
            check.due(p[0] + " and mul " + p[1], behind(p[0], p[1], "mul 0 1", 0), product);
            check.due(p[0] + " and mul " + p[1] + ", the operand's cell", behind(p[0], p[1], "mul 0 1", 1), p[1]);
            check.due(p[0] + " and put " + p[1], behind(p[0], 0, "put 0 " + p[1], 0), p[1]);
            check.due(p[0] + " and sum itself", behind(p[0], 0, "sum 0 0", 0), 2 * p[0] % 10000);
            check.due(p[0] + " and mul itself", behind(p[0], 0, "mul 0 0", 0), p[0] * p[0] % 10000);
        }
    }

    private static void settings() {
        check.about("The settings, with their ranges and initial values, are LAG (1 to 40, initially 40) and QUORUM (1 to 6, initially 2)");
        LockstepRoom x = new LockstepRoom();
        check.due("initial lag", x.getSetting(LAG), 40);
        check.due("initial quorum", x.getSetting(QUORUM), 2);
        for (int[] range : new int[][] {{LAG, 40, 40}, {QUORUM, 6, 2}}) {
            int before = range[2];
            for (int value = 1; value <= range[1]; value++) {
                check.due("set " + range[0] + " to " + value, x.setSetting(range[0], value), before);
                check.due("setting " + range[0], x.getSetting(range[0]), value);
                before = value;
            }
            for (int bad : new int[] {0, range[1] + 1, -1, Integer.MIN_VALUE, Integer.MAX_VALUE}) {
                check.due("set " + range[0] + " to " + bad, x.setSetting(range[0], bad), LockstepRoom.BAD_VALUE);
                check.due("setting " + range[0], x.getSetting(range[0]), range[1]);
            }
        }
        check.due("lag behind changes of quorum", x.getSetting(LAG), 40);
        x.setSetting(LAG, 7);
        check.due("quorum behind a change of lag", x.getSetting(QUORUM), 6);
    }

    // ---- COMMANDS

    private static void commands() {
        whatEachSortChanges();
        atMostEightCommands();
        orderOfExecution();
        emptyTurns();
        atMostFortyTurns();
    }

    private static void whatEachSortChanges() {
        check.about("The cell is changed by each of them, the operand's cell by SWAP alone");
        for (int[] p : new int[][] {{0, 15}, {15, 0}, {7, 8}, {0, 0}, {15, 15}}) {
            for (int sort = 0; sort < 6; sort++) {
                int[] due = new int[16];
                StringBuilder start = new StringBuilder("start");
                for (int c = 0; c < 16; c++) {
                    due[c] = 2 + c;
                    start.append(' ').append(due[c]);
                }
                int cell = due[p[0]];
                int operand = due[p[1]];
                int[] became = {p[1], cell + p[1], operand, cell + operand, operand, cell * operand};
                due[p[0]] = became[sort];
                if (sort == LockstepRoom.SWAP) {
                    due[p[1]] = cell;
                }
                LockstepRoom x = Check.loaded(start + ";member a 1;do a " + SORTS[sort] + " " + p[0] + " " + p[1] + ";seal;");
                x.run(0, 1);
                for (int c = 0; c < 16; c++) {
                    String call = SORTS[sort] + " " + p[0] + " " + p[1];
                    check.due("cell " + c + " behind " + call, x.cellOf(0, c), due[c]);
                    boolean isChanged = c == p[0] || sort == LockstepRoom.SWAP && c == p[1];
                    check.due("lastWrite of cell " + c + " behind " + call, x.lastWrite(0, c), isChanged ? 0 : NONE);
                }
            }
        }
    }

    private static void atMostEightCommands() {
        check.about("Commands are given to the open turn, at most 8 of them");
        LockstepRoom x = Check.loaded("member a 1;member b 1;");
        for (int turn = 0; turn < 3; turn++) {
            for (int k = 1; k <= 8; k++) {
                check.due("give", x.give(k % 2, LockstepRoom.ADD, turn, 1), k);
                check.due("open commands", x.count(2), k);
            }
            for (int author = 0; author < 2; author++) {
                check.due("a ninth", x.give(author, LockstepRoom.ADD, turn, 1), LockstepRoom.FULL);
            }
            check.due("open commands", x.count(2), 8);
            check.due("seal", x.seal(), turn + 1);
            check.due("open commands of the next turn", x.count(2), 0);
            check.due("commands of the sealed one", x.commandCount(turn), 8);
        }
        x.run(0, 3);
        check.due("all were executed", cells(x, 0), "8 8 8 0 0 0 0 0 0 0 0 0 0 0 0 0");
        LockstepRoom y = Check.loaded("member a 1;" + "do a put 1 1;".repeat(8));
        check.due("a ninth behind eight of the text", y.give(0, PUT, 1, 1), LockstepRoom.FULL);
        y.undo();
        y.seal();
        y.undo();
        check.due("a ninth behind an undone seal", y.give(0, PUT, 1, 1), LockstepRoom.FULL);
    }

    /** All sequences of four authors out of three, and some of eight out of six. */
    private static void orderOfExecution() {
        check.about("by ascending authors, those of one author in the order in which they were given");
        for (int code = 0; code < 81; code++) {
            ordered(new int[] {code % 3, code / 3 % 3, code / 9 % 3, code / 27}, 3);
        }
        Random random = new Random(1);
        for (int n = 0; n < 50; n++) {
            int[] authors = new int[8];
            for (int k = 0; k < 8; k++) {
                authors[k] = random.nextInt(6);
            }
            ordered(authors, 6);
        }
        ordered(new int[] {5, 5, 5, 5, 5, 5, 5, 5}, 6);
        ordered(new int[] {5, 4, 3, 2, 1, 0, 5, 0}, 6);
        ordered(new int[] {0}, 6);
        ordered(new int[] {5}, 6);
    }

    private static void ordered(int[] authors, int members) {
        LockstepRoom x = Check.loaded(SIX.substring(0, 11 * members) + "do a put 1 1;seal;");
        for (int k = 0; k < authors.length; k++) {
            x.give(authors[k], PUT, 0, 100 * authors[k] + k);
        }
        x.seal();
        int place = 0;
        for (int author = 0; author < members; author++) {
            for (int k = 0; k < authors.length; k++) {
                if (authors[k] == author) {
                    check.due("author of command " + place, x.command(1, place, 0), author);
                    check.due("operand of command " + place, x.command(1, place, 3), 100 * author + k);
                    place++;
                }
            }
        }
        check.due("behind the last one", x.command(1, place, 0), NONE);
        x.run(0, 2);
        check.due("the last one counts", x.cellOf(0, 0), x.command(1, place - 1, 3));
    }

    private static void emptyTurns() {
        check.about("Seals the open turn; the next one is open then, without commands");
        LockstepRoom x = Check.loaded("start 5;member a 1;");
        check.due("seal of an empty turn", x.seal(), 1);
        check.due("commands", x.commandCount(0), 0);
        check.due("command", x.command(0, 0, 0), NONE);
        check.due("run", x.run(0, 1), 1);
        check.due("cells", cells(x, 0), zerosBut(0, 5));
        check.due("record", x.rootAt(0, 1), x.rootAt(0, 0));
        check.due("lastWrite", x.lastWrite(0, 0), NONE);
    }

    private static void atMostFortyTurns() {
        check.about("Sealed turns are indexed from 0; there are at most 40");
        LockstepRoom x = Check.loaded("member a 1;");
        for (int turn = 0; turn < 40; turn++) {
            check.noIndex("commandCount(" + turn + ") of an open turn", () -> x.commandCount(x.count(1)));
            x.give(0, LockstepRoom.ADD, 0, 1);
            check.due("seal", x.seal(), turn + 1);
            check.due("commandCount(" + turn + ")", x.commandCount(turn), 1);
        }
        check.due("a 41st seal", x.seal(), LockstepRoom.FULL);
        check.due("sealed", x.count(1), 40);
        check.noIndex("commandCount(40)", () -> x.commandCount(40));
        check.noIndex("commandCount(-1)", () -> x.commandCount(-1));
        for (int k = 1; k <= 8; k++) {
            check.due("give behind the last turn", x.give(0, LockstepRoom.ADD, 0, 100), k);
        }
        check.due("a ninth behind the last turn", x.give(0, LockstepRoom.ADD, 0, 100), LockstepRoom.FULL);
        check.due("a 41st seal with commands", x.seal(), LockstepRoom.FULL);
        check.due("open commands", x.count(2), 8);
        check.due("run", x.run(0, 40), 40);
        check.due("cell", x.cellOf(0, 0), 40);
        check.due("truth(40)", x.truth(40, 0), 40);
        check.due("truth(41)", x.truth(41, 0), NONE);
        check.due("lastWrite", x.lastWrite(0, 0), 39);
        check.due("last record", x.rootAt(0, 40), x.checksum(0, 1));
        check.due("behind the last record", x.rootAt(0, 41), NONE);
        check.due("run on", x.run(0, 1), 0);
        check.due("tick on", x.tick(), 0);
        check.due("mayRun", x.mayRun(0), 0);
    }

    // ---- TURNS

    private static void turns() {
        fromTurn0On();
        asManyAsAreSealed();
        notMoreThanLagBeyondTheLeast();
        asThisIsAheadOfACall();
        whoLeftHoldsBackNone();
    }

    private static void fromTurn0On() {
        check.about("Members execute sealed turns one after the other, from turn 0 on");
        LockstepRoom x = Check.loaded("start 1;member a 1;do a add 0 1;seal;do a mul 0 0;seal;do a add 0 3;seal;do a mul 0 0;seal;");
        int[] due = {1, 2, 4, 7, 49};
        for (int turn = 0; turn <= 4; turn++) {
            check.due("cell behind " + turn, x.cellOf(0, 0), due[turn]);
            check.due("truth behind " + turn, x.truth(turn, 0), due[turn]);
            check.due("executed", x.memberNumber(0, 1), turn);
            check.due("run", x.run(0, 1), turn < 4 ? 1 : 0);
        }
    }

    private static void asManyAsAreSealed() {
        check.about("A member may execute as many as are sealed");
        LockstepRoom x = Check.loaded("member a 4;do a put 0 1;");
        check.due("run when none is sealed", x.run(0, 40), 0);
        check.due("tick when none is sealed", x.tick(), 0);
        check.due("mayRun when none is sealed", x.mayRun(0), 0);
        check.due("the open turn is not executed", x.cellOf(0, 0), 0);
        for (int sealed = 1; sealed <= 5; sealed++) {
            x.seal();
            check.due("mayRun", x.mayRun(0), sealed);
        }
        check.due("run of one fewer", x.run(0, 4), 4);
        check.due("run of more", x.run(0, 40), 1);
        check.due("run of more", x.run(0, 40), 0);
        check.due("tick", x.tick(), 0);
        x.seal();
        check.due("tick of one with pace 4", x.tick(), 1);
        check.due("executed", x.memberNumber(0, 1), 6);
    }

    private static void notMoreThanLagBeyondTheLeast() {
        check.about("but not come to more than LAG turns beyond the least number of turns that an active member has executed");
        for (int lag : new int[] {1, 2, 7, 39, 40}) {
            for (int sealed : new int[] {lag - 1, lag, lag + 1, 40}) {
                if (sealed <= 40) {
                    LockstepRoom x = Check.loaded("member a 4;member b 1;set lag " + lag + ";" + "seal;".repeat(sealed));
                    int due = Math.min(lag, sealed);
                    check.due("mayRun with lag " + lag + " of " + sealed, x.mayRun(0), due);
                    check.due("run with lag " + lag + " of " + sealed, x.run(0, 40), due);
                    check.due("run on", x.run(0, 40), 0);
                    check.due("mayRun", x.mayRun(0), 0);
                    check.due("mayRun of the last one", x.mayRun(1), due);
                    check.due("the last one runs", x.run(1, 40), due);
                    check.due("mayRun then", x.mayRun(0), Math.min(lag, sealed - due));
                }
            }
        }
        LockstepRoom y = Check.loaded("member a 1;member b 1;set lag 5;" + "seal;".repeat(9));
        y.run(0, 5);
        int[] due = {0, 0, 0, 0, 0, 0, 1, 2, 3, 4};
        for (int lag = 1; lag < due.length; lag++) {
            y.setSetting(LAG, lag);
            check.due("mayRun of one at 5 with lag " + lag, y.mayRun(0), due[lag]);
        }
        y.setSetting(LAG, 40);
        check.due("mayRun of one at 5 with lag 40", y.mayRun(0), 4);
        y.setSetting(LAG, 2);
        check.due("run of one who is further than it may", y.run(0, 1), 0);
        check.due("tick", y.tick(), 1);
        check.due("executed", y.memberNumber(0, 1), 5);
    }

    private static void asThisIsAheadOfACall() {
        check.about("as this is ahead of a call");
        LockstepRoom x = Check.loaded("member a 4;set lag 1;" + "seal;".repeat(6));
        check.due("one alone", x.run(0, 40), 1);
        check.due("one alone", x.tick(), 1);
        x.setSetting(LAG, 3);
        check.due("one alone", x.mayRun(0), 3);
        check.due("one alone", x.tick(), 3);
        check.about("where the least number of turns is taken as it was at the beginning of this call");
        LockstepRoom y = Check.loaded("member a 1;member b 4;member c 4;set lag 2;" + "seal;".repeat(6));
        check.due("tick", y.tick(), 5);
        for (int m = 0; m < 3; m++) {
            check.due("executed by " + m, y.memberNumber(m, 1), m == 0 ? 1 : 2);
        }
        check.due("tick", y.tick(), 3);
        check.due("executed by c", y.memberNumber(2, 1), 3);
        check.due("tick", y.tick(), 3);
        check.due("tick", y.tick(), 3);
        check.due("tick", y.tick(), 3);
        check.due("the last one alone", y.tick(), 1);
        check.due("least", y.reached(false), 6);
        check.due("all have come to the end", y.tick(), 0);
    }

    private static void whoLeftHoldsBackNone() {
        check.about("the least number of turns that an active member has executed");
        LockstepRoom x = Check.loaded("member a 1;member b 1;member c 1;set lag 2;" + "seal;".repeat(9));
        x.run(0, 2);
        x.run(1, 1);
        check.due("mayRun of a", x.mayRun(0), 0);
        x.leave(2);
        check.due("mayRun of a without c", x.mayRun(0), 1);
        check.due("mayRun of c, who left", x.mayRun(2), 0);
        check.due("run of c, who left", x.run(2, 1), LockstepRoom.NOT_ALLOWED);
        x.leave(1);
        check.due("mayRun of a alone", x.mayRun(0), 2);
        check.due("tick", x.tick(), 1);
        check.due("b stays", x.memberNumber(1, 1), 1);
        check.due("c stays", x.memberNumber(2, 1), 0);
    }

    // ---- FAULTS

    private static void faults() {
        doneBehindTheTurn();
        severalFaultsOfOneTurn();
        atMostTenFaults();
    }

    private static void doneBehindTheTurn() {
        check.about("When the member has executed this turn, the amount is added to the cell; the fault does not wait any more then");
        for (int turn : new int[] {0, 1, 38, 39}) {
            LockstepRoom x = Check.loaded("start 0 1;member a 1;member b 1;" + "do b mul 1 1;seal;".repeat(40) + "fault a " + turn + " 15 9999;fault b " + turn + " 0 1;");
            if (turn > 0) {
                check.due("run ahead of it", x.run(0, turn), turn);
            }
            check.due("cell ahead of it", x.cellOf(0, 15), 0);
            check.due("waiting", x.count(3), 2);
            check.due("run of it", x.run(0, 1), 1);
            check.due("cell behind it", x.cellOf(0, 15), 9999);
            check.due("that of another member", x.cellOf(0, 0), 0);
            check.due("waiting", x.count(3), 1);
            check.due("who waits", x.faultNumber(0, 0), 1);
            check.due("record behind it", x.rootAt(0, turn + 1), x.checksum(0, 1));
            x.run(0, 40);
            check.due("cell at the end", x.cellOf(0, 15), 9999);
            check.due("waiting", x.count(3), 1);
        }
        LockstepRoom y = Check.loaded("start 9999 9998;member a 1;fault a 0 0 1;fault a 0 1 1;fault a 0 2 1;fault a 0 3 9999;seal;seal;");
        y.run(0, 1);
        check.due("modulo 10000", cells(y, 0), "0 9999 1 9999 0 0 0 0 0 0 0 0 0 0 0 0");
        check.due("a command of the turn comes first", faultBehindPut(), 8);
        check.due("a turn that is not sealed", y.fault(0, 39, 0, 1), 1);
        y.run(0, 1);
        check.due("waits on", y.count(3), 1);
    }

    private static int faultBehindPut() {
        LockstepRoom x = Check.loaded("member a 1;fault a 0 0 1;do a put 0 7;seal;");
        x.run(0, 1);
        return x.cellOf(0, 0);
    }

    private static void severalFaultsOfOneTurn() {
        check.about("Several faults of one turn are done in the order in which they were told");
        LockstepRoom x = Check.loaded("member a 1;member b 1;fault a 0 4 9999;fault a 1 4 5;fault a 0 4 9999;fault b 0 4 3;fault a 0 4 1;fault a 0 5 2;seal;seal;");
        check.due("run", x.run(0, 1), 1);
        check.due("all of them", x.cellOf(0, 4), 9999);
        check.due("all of them", x.cellOf(0, 5), 2);
        check.due("waiting", x.count(3), 2);
        check.due("the first one", x.faultNumber(0, 1), 1);
        check.due("the second one", x.faultNumber(1, 0), 1);
        x.run(0, 1);
        check.due("modulo 10000", x.cellOf(0, 4), 4);
        LockstepRoom y = Check.loaded("member a 1;" + "fault a 0 0 9999;".repeat(10) + "seal;");
        y.tick();
        check.due("ten of one turn", y.cellOf(0, 0), 9990);
        check.due("none waits", y.count(3), 0);
    }

    private static void atMostTenFaults() {
        check.about("At most 10 faults are waiting");
        LockstepRoom x = Check.loaded("member a 1;member b 1;seal;");
        for (int n = 1; n <= 10; n++) {
            check.due("fault", x.fault(n % 2, n == 10 ? 0 : 39, 0, n), n);
        }
        check.due("an 11th", x.fault(1, 39, 0, 1), LockstepRoom.FULL);
        check.due("waiting", x.count(3), 10);
        check.due("the last one", x.faultNumber(9, 3), 10);
        check.noIndex("an 11th", () -> x.faultNumber(10, 3));
        x.run(0, 1);
        check.due("one was done", x.count(3), 9);
        check.noIndex("a tenth", () -> x.faultNumber(9, 3));
        check.due("a tenth", x.fault(1, 39, 0, 11), 10);
        check.due("an 11th", x.fault(1, 39, 0, 1), LockstepRoom.FULL);
        x.leave(0);
        check.due("those of one who left", x.count(3), 6);
        for (int n = 7; n <= 10; n++) {
            check.due("fault", x.fault(1, 39, 0, n), n);
        }
        check.due("an 11th", x.fault(1, 39, 0, 1), LockstepRoom.FULL);
        LockstepRoom y = Check.loaded("member a 1;" + "fault a 1 1 1;".repeat(10));
        check.due("an 11th behind ten of the text", y.fault(0, 1, 1, 1), LockstepRoom.FULL);
    }

    // ---- CHECKSUMS

    private static void checksums() {
        check.about("node 16 + c is cell c, with the checksum 40503 times its number plus 977 times c plus 1; each node k below 16: modulo 2147483647");
        Random random = new Random(2);
        for (int n = 0; n < 40; n++) {
            StringBuilder text = new StringBuilder("start");
            int[] numbers = new int[16];
            for (int c = 0; c < 16; c++) {
                numbers[c] = n == 0 ? 0 : n == 1 ? 9999 : n == 2 ? 9999 * (c % 2) : random.nextInt(10000);
                text.append(' ').append(numbers[c]);
            }
            LockstepRoom x = Check.loaded(text + ";member a 1;");
            long[] due = new long[32];
            for (int c = 0; c < 16; c++) {
                due[16 + c] = 40503L * numbers[c] + 977L * c + 1;
            }
            for (int k = 15; k >= 1; k--) {
                due[k] = (69069 * due[2 * k] + (30011 + 2 * k) * due[2 * k + 1] + k) % 2147483647;
            }
            for (int k = 1; k <= 31; k++) {
                check.due("checksum(0, " + k + ")", x.checksum(0, k), due[k]);
            }
            check.due("rootAt(0, 0)", x.rootAt(0, 0), due[1]);
        }
        LockstepRoom y = Check.loaded("member a 1;");
        for (int bad : new int[] {0, 32, -1, -16, Integer.MIN_VALUE, Integer.MAX_VALUE}) {
            check.due("checksum(0, " + bad + ")", y.checksum(0, bad), LockstepRoom.BAD_VALUE);
        }
        record();
    }

    private static void record() {
        check.about("The record of a member has each number of turns from that on with which it began up to those that it has executed");
        for (int began : new int[] {0, 1, 3, 40}) {
            LockstepRoom x = Check.loaded("set quorum 1;member a 4;" + "do a add 3 7;seal;".repeat(40));
            if (began > 0) {
                x.run(0, began);
            }
            int joined = x.join(1);
            for (int more = 0; more <= 2; more++) {
                int executed = Math.min(40, began + more);
                for (int turn = -1; turn <= 41; turn++) {
                    boolean has = turn >= began && turn <= executed;
                    check.due("rootAt(1, " + turn + ")", x.rootAt(joined, turn) != NONE, has);
                    check.due("votes(1, " + turn + ")", x.votes(joined, turn) != NONE, has);
                }
                check.due("the last one", x.rootAt(joined, executed), x.checksum(joined, 1));
                x.run(joined, 1);
            }
            check.due("far away", x.rootAt(joined, Integer.MAX_VALUE), NONE);
            check.due("far away", x.rootAt(joined, Integer.MIN_VALUE), NONE);
        }
    }

    // ---- HALVING

    private static void halving() {
        everyPatternOfRecords();
        patternsOfOneWhoJoined();
        noneOrOneThatBothHave();
        differentLengths();
        downTheTrees();
        sameChecksumsOfOtherCells();
    }

    private static int halved(boolean[] differ, int least, int greatest) {
        if (!differ[greatest]) {
            return NONE;
        }
        if (least == greatest) {
            return least;
        }
        int middle = (least + greatest) / 2;
        return differ[middle] ? halved(differ, least, middle) : halved(differ, middle + 1, greatest);
    }

    private static int first(boolean[] differ, int least, int greatest) {
        for (int turn = least; turn <= greatest; turn++) {
            if (differ[turn]) {
                return turn;
            }
        }
        return NONE;
    }

    private static void records(String call, LockstepRoom x, int a, int b, boolean[] differ, int least, int greatest) {
        for (int turn = least; turn <= greatest; turn++) {
            check.due(call + ": records at " + turn, x.rootAt(a, turn) != x.rootAt(b, turn), differ[turn]);
        }
        int firstDue = first(differ, least, greatest);
        int halvedDue = halved(differ, least, greatest);
        for (int swapped = 0; swapped < 2; swapped++) {
            int former = swapped == 0 ? a : b;
            int latter = swapped == 0 ? b : a;
            check.due(call + ": firstWrongTurn", x.firstWrongTurn(former, latter), firstDue);
            check.due(call + ": halvedTurn", x.halvedTurn(former, latter), halvedDue);
            check.due(call + ": isHalvingRight", x.isHalvingRight(former, latter), firstDue == halvedDue);
        }
    }

    /** A fault of 1 makes the records differ, one of 9999 makes them the same again. */
    private static String pattern(String name, int firstTurn, int length, int bits, boolean[] differ) {
        StringBuilder text = new StringBuilder();
        for (int k = 0; k < length; k++) {
            boolean is = (bits >> k & 1) != 0;
            int turn = firstTurn + k;
            if (is != differ[turn]) {
                text.append("fault ").append(name).append(' ').append(turn).append(" 6 ").append(is ? 1 : 9999).append(';');
            }
            differ[turn + 1] = is;
        }
        return text.toString();
    }

    private static void everyPatternOfRecords() {
        check.about("the records are compared at its middle (the sum of its least and greatest number, divided by 2, rounded down)");
        for (int length = 0; length <= 8; length++) {
            for (int bits = 0; bits < 1 << length; bits++) {
                boolean[] differ = new boolean[42];
                LockstepRoom x = Check.loaded("member a 1;member b 1;" + "seal;".repeat(length) + pattern("b", 0, length, bits, differ));
                x.run(0, 40);
                x.run(1, 40);
                records("pattern " + bits + " of " + length, x, 0, 1, differ, 0, length);
            }
        }
        // one difference within the 41 numbers of turns that there are, up to the end
        for (int turn = 0; turn < 40; turn++) {
            for (int until = turn + 1; until <= 40; until += until < 39 ? 7 : 1) {
                boolean[] differ = new boolean[42];
                String text = "seal;".repeat(40) + "fault b " + turn + " 0 1;" + (until < 40 ? "fault b " + until + " 0 9999;" : "");
                LockstepRoom x = Check.loaded("member a 1;member b 1;" + text);
                x.run(0, 40);
                x.run(1, 40);
                for (int n = turn + 1; n <= until; n++) {
                    differ[n] = true;
                }
                records("from " + turn + " until " + until, x, 0, 1, differ, 0, 40);
            }
        }
    }

    private static void patternsOfOneWhoJoined() {
        check.about("a range of numbers of turns is kept: at first from the least one to the greatest one that both have");
        for (int began = 0; began <= 3; began++) {
            for (int bits = 0; bits < 64; bits++) {
                boolean[] differ = new boolean[42];
                LockstepRoom x = Check.loaded("set quorum 1;member a 1;" + "seal;".repeat(began + 6));
                if (began > 0) {
                    x.run(0, began);
                }
                x.join(1);
                for (int k = 0; k < 6; k++) {
                    boolean is = (bits >> k & 1) != 0;
                    if (is != differ[began + k]) {
                        x.fault(1, began + k, 6, is ? 1 : 9999);
                    }
                    differ[began + k + 1] = is;
                }
                x.run(0, 6);
                x.run(1, 6);
                records("pattern " + bits + " from " + began, x, 0, 1, differ, began, began + 6);
            }
        }
    }

    private static void noneOrOneThatBothHave() {
        check.about("or there is none that both have");
        for (int turns : new int[] {1, 2, 5, 38}) {
            LockstepRoom x = Check.loaded("set quorum 1;member a 1;member b 1;fault b " + (turns - 1) + " 0 1;" + "seal;".repeat(40));
            x.run(0, turns);
            x.run(1, turns);
            check.due("join with the cells of a", x.join(1), 2);
            // the one number that both have
            check.due("firstWrongTurn", x.firstWrongTurn(1, 2), turns);
            check.due("halvedTurn", x.halvedTurn(2, 1), turns);
            check.due("isHalvingRight", x.isHalvingRight(1, 2), true);
            check.due("firstWrongTurn of those that are the same", x.firstWrongTurn(2, 0), NONE);
            check.due("halvedTurn of those that are the same", x.halvedTurn(0, 2), NONE);
            x.leave(0);
            x.run(1, 1);
            x.run(2, 1);
            check.due("join with the cells of b", x.join(1), 3);
            for (int swapped = 0; swapped < 2; swapped++) {
                int a = swapped * 3;
                check.due("firstWrongTurn", x.firstWrongTurn(a, 3 - a), NONE);
                check.due("halvedTurn", x.halvedTurn(a, 3 - a), NONE);
                check.due("isHalvingRight", x.isHalvingRight(a, 3 - a), true);
                check.due("the cells differ all the same", x.wrongCells(a, 3 - a), 1);
                check.due("other turns", x.firstWrongCell(a, 3 - a), LockstepRoom.NOT_ALLOWED);
            }
        }
    }

    private static void differentLengths() {
        check.about("If the records are the same at the greatest one, nothing is found");
        LockstepRoom x = Check.loaded("member a 1;member b 1;fault b 2 0 1;" + "seal;".repeat(6));
        x.run(0, 6);
        for (int executed = 0; executed <= 6; executed++) {
            int due = executed < 3 ? NONE : 3;
            check.due("firstWrongTurn at " + executed, x.firstWrongTurn(0, 1), due);
            check.due("halvedTurn at " + executed, x.halvedTurn(1, 0), due);
            check.due("isHalvingRight at " + executed, x.isHalvingRight(0, 1), true);
            x.run(1, 1);
        }
        for (int m = 0; m < 2; m++) {
            check.due("of itself", x.firstWrongTurn(m, m), NONE);
            check.due("of itself", x.halvedTurn(m, m), NONE);
            check.due("of itself", x.isHalvingRight(m, m), true);
            check.due("of itself", x.firstWrongCell(m, m), NONE);
            check.due("of itself", x.wrongCells(m, m), 0);
            check.due("of itself", x.comparisons(m, m), 1);
        }
    }

    /** The nodes of a tree that are compared: node 1, and both children of each node with a cell below it that differs. */
    private static int compared(int wrong) {
        int nodes = 1;
        for (int level = 2; level <= 16; level *= 2) {
            int width = 32 / level;
            for (int n = 0; n < level / 2; n++) {
                if ((wrong >> n * width & (1 << width) - 1) != 0) {
                    nodes += 2;
                }
            }
        }
        return nodes;
    }

    private static void downTheTrees() {
        check.about("if the checksums of a node are the same in both, nothing below it is looked at; otherwise its children are looked at, the former one first");
        for (int c = 0; c < 16; c++) {
            different(1 << c);
            different(0xFFFF ^ 1 << c);
            for (int other = 0; other < c; other++) {
                different(1 << c | 1 << other);
            }
        }
        for (int wrong : new int[] {0, 0xFFFF, 0xFF, 0xFF00, 0x0F0F, 0xAAAA, 0x5555, 0x8001}) {
            different(wrong);
        }
    }

    private static void different(int wrong) {
        StringBuilder text = new StringBuilder("member a 1;member b 1;");
        int commands = 0;
        for (int c = 0; c < 16; c++) {
            if ((wrong >> c & 1) != 0) {
                text.append("do a put ").append(c).append(" 5;").append(++commands % 8 == 0 ? "seal;" : "");
            }
        }
        LockstepRoom x = Check.loaded(text + (commands % 8 == 0 ? "" : "seal;"));
        int turns = x.run(0, 3);
        check.due("wrongCells", x.wrongCells(0, 1), wrong);
        check.due("wrongCells", x.wrongCells(1, 0), wrong);
        check.due("comparisons of " + Integer.toBinaryString(wrong), x.comparisons(0, 1), compared(wrong));
        check.due("comparisons of " + Integer.toBinaryString(wrong), x.comparisons(1, 0), compared(wrong));
        int lowest = wrong == 0 ? NONE : Integer.numberOfTrailingZeros(wrong);
        check.due("firstWrongCell", x.firstWrongCell(0, 1), turns == 0 ? lowest : LockstepRoom.NOT_ALLOWED);
        check.due("firstWrongCell", x.firstWrongCell(1, 0), turns == 0 ? lowest : LockstepRoom.NOT_ALLOWED);
        // b comes to the same number of turns with a fault where it must have 5, so that the same cells differ
        LockstepRoom y = Check.loaded("member a 1;member b 1;" + faultsAt(wrong) + "seal;");
        if (Integer.bitCount(wrong) <= 10) {
            y.tick();
            check.due("firstWrongCell", y.firstWrongCell(0, 1), lowest);
            check.due("firstWrongCell", y.firstWrongCell(1, 0), lowest);
            check.due("wrongCells", y.wrongCells(1, 0), wrong);
        }
    }

    private static String faultsAt(int wrong) {
        StringBuilder text = new StringBuilder();
        for (int c = 0; c < 16 && Integer.bitCount(wrong) <= 10; c++) {
            if ((wrong >> c & 1) != 0) {
                text.append("fault b 0 ").append(c).append(" 1;");
            }
        }
        return text.toString();
    }

    /**
     * 69069 times 4291 is 30037 times 9867: where cell 10 is higher by 4291 and cell 11 lower by 9867, node 13 has the
     * same checksum all the same.
     */
    private static LockstepRoom hidden(String more) {
        return Check.loaded("start 0 0 0 0 0 0 0 0 0 0 1 9868;member a 1;member b 1;member c 1;fault c 0 10 4291;fault c 0 11 133;" + more + "seal;seal;");
    }

    private static void sameChecksumsOfOtherCells() {
        check.about("if the checksums of a node are the same in both, nothing below it is looked at");
        LockstepRoom x = hidden("");
        x.tick();
        check.due("cell 10", x.cellOf(2, 10), 4292);
        check.due("cell 11", x.cellOf(2, 11), 1);
        check.due("node 26", x.checksum(2, 26) != x.checksum(0, 26), true);
        check.due("node 27", x.checksum(2, 27) != x.checksum(0, 27), true);
        check.due("node 13", x.checksum(2, 13), x.checksum(0, 13));
        check.due("wrongCells", x.wrongCells(0, 2), 0);
        check.due("firstWrongCell", x.firstWrongCell(0, 2), NONE);
        check.due("comparisons", x.comparisons(0, 2), 1);
        check.due("firstWrongTurn", x.firstWrongTurn(0, 2), NONE);
        check.due("halvedTurn", x.halvedTurn(0, 2), NONE);
        check.due("votes", x.votes(2, 1), 3);
        check.due("it is not wrong", x.wrongMembers(), 0);
        check.due("whyNot", x.whyNot(2), 3);
        check.due("it is not true", x.trueMembers(), 3);
        // the lower one gives, though its cells are others
        x.leave(0);
        x.leave(1);
        x.setSetting(QUORUM, 1);
        check.due("join", x.join(1), 3);
        check.due("all cells are copied", cells(x, 3), cells(x, 2));
        check.about("The cells that differ, as they are found by going down both trees, are copied from the donor");
        LockstepRoom y = hidden("fault c 0 15 5;fault c 0 8 5;");
        y.tick();
        check.due("wrongCells", y.wrongCells(0, 2), 1 << 15 | 1 << 8);
        // 1; 2, 3; 6, 7; 12, 13, 14, 15; 24, 25; 30, 31
        check.due("comparisons", y.comparisons(2, 0), 13);
        check.due("heal", y.heal(2), 2);
        check.due("the cells that are not found stay", cells(y, 2), "0 0 0 0 0 0 0 0 0 0 4292 1 0 0 0 0");
        check.due("got", y.memberNumber(2, 4), 2);
        check.due("given", y.memberNumber(0, 3), 2);
        check.due("record", y.rootAt(2, 1), y.rootAt(0, 1));
        check.due("it is not wrong", y.isWrong(2), false);
        check.due("it is not true", y.trueMembers(), 3);
        LockstepRoom z = hidden("fault c 0 10 1;");
        z.tick();
        check.due("wrongCells", z.wrongCells(0, 2), 1 << 10 | 1 << 11);
        check.due("heal", z.heal(2), 2);
        check.due("cells", cells(z, 2), cells(z, 0));
    }

    // ---- VOTES

    /** Six members behind one turn, whose cells are as the digits say; '-' has not executed it, 'x' left behind it. */
    private static LockstepRoom groups(String digits, int quorum) {
        StringBuilder text = new StringBuilder("set quorum ").append(quorum).append(';').append(SIX).append("seal;seal;");
        for (int m = 0; m < 6; m++) {
            char digit = Character.toLowerCase(digits.charAt(m));
            if (digit > '0' && digit <= '9') {
                text.append("fault ").append((char) ('a' + m)).append(" 0 0 ").append(digit).append(';');
            }
        }
        LockstepRoom x = Check.loaded(text.toString());
        for (int m = 0; m < 6; m++) {
            if (digits.charAt(m) != '-') {
                x.run(m, 1);
            }
            if (digits.charAt(m) == 'x') {
                x.leave(m);
            }
        }
        return x;
    }

    private static void votes() {
        everyGrouping();
        thoseWhoseRecordsHaveIt();
        fewerMembersThanQuorum();
        wrongMembers();
    }

    private static int sizeOfGroup(String digits, int m) {
        int size = 0;
        for (int other = 0; other < 6; other++) {
            if (digits.charAt(other) == digits.charAt(m)) {
                size++;
            }
        }
        return size;
    }

    private static boolean hasVote(char digit) {
        return digit >= '0' && digit <= '9';
    }

    /** The lowest member of the group that wins, counted from the digits alone. */
    private static int winnerOf(String digits, int quorum) {
        int winner = NONE;
        for (int m = 0; m < 6; m++) {
            if (hasVote(digits.charAt(m)) && (winner == NONE || sizeOfGroup(digits, m) > sizeOfGroup(digits, winner))) {
                winner = m;
            }
        }
        return winner != NONE && sizeOfGroup(digits, winner) >= quorum ? winner : NONE;
    }

    private static void everyGrouping() {
        check.about("The group with the most members wins, of several that whose lowest member is lowest; but there is no vote if it has fewer members than QUORUM");
        String signs = "012-x";
        for (int code = 0; code < 15625; code++) {
            StringBuilder digits = new StringBuilder();
            for (int m = 0, rest = code; m < 6; m++, rest /= 5) {
                digits.append(signs.charAt(rest % 5));
            }
            // all groupings of three groups, and a part of those with members who left or did not come so far
            if (digits.indexOf("-") < 0 && digits.indexOf("x") < 0 || code % 11 == 0) {
                grouping(digits.toString());
            }
        }
        for (String digits : new String[] {"012345", "123450", "000000", "001122", "221100", "102201", "xxxxxx", "------", "-----0", "xxxxx0"}) {
            grouping(digits);
        }
    }

    private static void grouping(String digits) {
        LockstepRoom x = groups(digits, 1);
        for (int quorum = 1; quorum <= 6; quorum++) {
            x.setSetting(QUORUM, quorum);
            int winner = winnerOf(digits, quorum);
            check.due("winner(1) of " + digits + " with quorum " + quorum, x.winner(1), winner);
            int wrong = 0;
            for (int m = 0; m < 6; m++) {
                boolean isWrong = hasVote(digits.charAt(m)) && winner != NONE && digits.charAt(m) != digits.charAt(winner);
                check.due("isWrong(" + m + ") of " + digits + " with quorum " + quorum, x.isWrong(m), isWrong);
                wrong |= isWrong ? 1 << m : 0;
            }
            check.due("wrongMembers() of " + digits + " with quorum " + quorum, x.wrongMembers(), wrong);
        }
        for (int m = 0; m < 6; m++) {
            if (hasVote(digits.charAt(m))) {
                check.due("votes(" + m + ", 1) of " + digits, x.votes(m, 1), sizeOfGroup(digits, m));
            }
        }
    }

    private static void thoseWhoseRecordsHaveIt() {
        check.about("At a number of turns those active members vote whose records have it");
        LockstepRoom x = groups("000-x0", 1);
        check.due("at 0", x.votes(0, 0), 5);
        check.due("at 0, of one who left", x.votes(4, 0), 5);
        check.due("at 0, of one who is there yet", x.votes(3, 0), 5);
        check.due("at 1", x.votes(0, 1), 4);
        check.due("at 1, of one who left", x.votes(4, 1), 4);
        check.due("at 1, of one who is not there", x.votes(3, 1), NONE);
        for (int bad : new int[] {-1, 2, 40, 41, Integer.MIN_VALUE, Integer.MAX_VALUE}) {
            check.due("votes at " + bad, x.votes(0, bad), NONE);
            check.due("winner at " + bad, x.winner(bad), NONE);
        }
        // one who joined at 1 has no vote at 0
        LockstepRoom y = Check.loaded("set quorum 1;member a 1;seal;seal;");
        y.run(0, 1);
        y.join(1);
        check.due("at 0 without the one who joined", y.votes(0, 0), 1);
        check.due("at 1 with the one who joined", y.votes(0, 1), 2);
        y.leave(0);
        check.due("nobody has a vote at 0", y.winner(0), NONE);
        check.due("one who left asks at 0", y.votes(0, 0), 0);
        check.due("the one who joined at 1", y.winner(1), 1);
        check.due("winner of an empty room", new LockstepRoom().winner(0), NONE);
    }

    private static void fewerMembersThanQuorum() {
        check.about("there is no vote if it has fewer members than QUORUM");
        for (int members = 1; members <= 6; members++) {
            for (int quorum = 1; quorum <= 6; quorum++) {
                LockstepRoom x = Check.loaded("set quorum " + quorum + ";" + SIX.substring(0, 11 * members));
                check.due("winner of " + members + " with quorum " + quorum, x.winner(0), members >= quorum ? 0 : NONE);
                check.due("whyNot of " + members + " with quorum " + quorum, x.whyNot(members - 1), members >= quorum ? 3 : 2);
                int joined = members >= quorum ? members == 6 ? LockstepRoom.FULL : members : members == 6 ? LockstepRoom.FULL : LockstepRoom.NOT_ALLOWED;
                check.due("join to " + members + " with quorum " + quorum, x.join(1), joined);
            }
        }
    }

    private static void wrongMembers() {
        check.about("A member is wrong if it is active, there is a vote at the number of turns that it has executed, and it is not in the group that wins there");
        LockstepRoom x = groups("001000", 2);
        check.due("not in the group that wins", x.isWrong(2), true);
        check.due("in the group that wins", x.isWrong(0), false);
        // at 2 it is alone: no vote there, though it is wrong at 1
        x.run(2, 1);
        check.due("no vote at its number of turns", x.isWrong(2), false);
        x.run(0, 1);
        check.due("two groups of one at 2", x.isWrong(2), false);
        x.run(1, 1);
        check.due("a vote at its number of turns", x.isWrong(2), true);
        check.due("the others have no part in it", x.wrongMembers(), 4);
        x.leave(2);
        check.due("one who left", x.isWrong(2), false);
        check.due("one who left", x.wrongMembers(), 0);
        LockstepRoom all = groups("012345", 1);
        check.due("all but the lowest one", all.wrongMembers(), 62);
    }

    // ---- HEALING

    private static void healing() {
        whoIsADonor();
        theFewestCells();
        cellsThatDiffer();
        theRecordAtThisNumber();
    }

    private static void whoIsADonor() {
        check.about("A donor for a member is an active member of the group that wins at the number of turns that the former has executed, another one than this, that has executed just as many turns");
        LockstepRoom x = groups("100200", 2);
        int[] due = {1, 2, 1, 1, 1, 1};
        for (int m = 0; m < 6; m++) {
            check.due("donorFor(" + m + ")", x.donorFor(m), due[m]);
        }
        x.run(1, 1);
        check.due("b has executed more", x.donorFor(0), 2);
        check.due("b is alone at 2: no vote", x.donorFor(1), NONE);
        x.leave(2);
        check.due("c left", x.donorFor(0), 4);
        check.due("also for one who left", x.donorFor(2), 4);
        x.run(4, 1);
        check.due("e has executed more", x.donorFor(0), 5);
        check.due("a member is not its own donor", x.donorFor(5), NONE);
        x.run(5, 1);
        check.due("all of the group have executed more", x.donorFor(0), NONE);
        check.due("there is a vote all the same", x.winner(1), 1);
        check.due("whyNot", x.whyNot(0), 4);
        check.due("heal", x.heal(0), LockstepRoom.NOT_ALLOWED);
        check.due("healAll", x.healAll(), NONE);
        check.due("donor at 2", x.donorFor(1), 4);
        LockstepRoom ahead = groups("1-0000", 2);
        check.due("one who has not come so far has another donor", ahead.donorFor(1), NONE);
        check.due("and is none", ahead.donorFor(0), 2);
    }

    private static void theFewestCells() {
        check.about("of these the one that gave the fewest cells so far; ties are broken by lower index");
        LockstepRoom x = Check.loaded(SIX + "fault f 0 0 1;fault f 0 1 1;fault f 1 0 1;fault f 2 0 1;fault f 3 0 1;fault f 4 0 1;fault f 5 0 1;" + "seal;".repeat(6));
        int[] donors = {0, 1, 2, 3, 4, 1};
        int[] given = {2, 2, 1, 1, 1};
        for (int turn = 0; turn < 6; turn++) {
            x.tick();
            check.due("donorFor(5) at " + turn, x.donorFor(5), donors[turn]);
            check.due("heal at " + turn, x.heal(5), turn == 0 ? 2 : 1);
        }
        for (int m = 0; m < 5; m++) {
            check.due("given by " + m, x.memberNumber(m, 3), given[m]);
        }
        check.due("got", x.memberNumber(5, 4), 7);
        check.due("healed", x.memberNumber(5, 5), 6);
        // one with a higher index that gave more, and one that gave fewer, but more than the lowest one
        LockstepRoom y = Check.loaded(SIX + "fault f 0 0 1;fault f 0 1 1;fault f 1 0 1;fault f 2 0 1;seal;seal;seal;seal;");
        y.tick();
        y.run(0, 1);
        y.run(2, 1);
        check.due("heal by b", y.heal(5), 2);
        y.run(1, 1);
        y.run(3, 1);
        y.run(5, 1);
        y.run(0, 1);
        check.due("heal by c", y.heal(5), 1);
        y.run(2, 1);
        y.run(1, 1);
        y.run(3, 1);
        y.run(5, 1);
        int[] gave = {0, 2, 1, 0, 0, 0};
        for (int m = 0; m < 6; m++) {
            check.due("given by " + m, y.memberNumber(m, 3), gave[m]);
        }
        check.due("a gave none, b two, c one, d none", y.donorFor(5), 0);
        y.leave(0);
        check.due("b gave two, c one, d none", y.donorFor(5), 3);
        y.leave(3);
        check.due("b gave two, c one", y.donorFor(5), 2);
        y.leave(2);
        y.setSetting(QUORUM, 1);
        check.due("b alone is left", y.donorFor(5), 1);
        check.due("heal by b", y.heal(5), 1);
    }

    private static void cellsThatDiffer() {
        check.about("The cells that differ are copied from the donor: they count as given by it, and as got by the member");
        for (int cells = 1; cells <= 10; cells++) {
            StringBuilder text = new StringBuilder("start 9999 9998 9997 9996 9995 9994 9993 9992 9991 9990 9989 9988 9987 9986 9985 9984;");
            text.append("member a 1;member b 1;member c 1;");
            for (int n = 0; n < cells; n++) {
                text.append("fault c 0 ").append(15 - n).append(' ').append(n % 2 == 0 ? 1 : 9999).append(';');
            }
            LockstepRoom x = Check.loaded(text.append("seal;").toString());
            x.tick();
            check.due("heal", x.heal(2), cells);
            check.due("cells", cells(x, 2), cells(x, 0));
            check.due("given", x.memberNumber(0, 3), cells);
            check.due("got", x.memberNumber(2, 4), cells);
            check.due("healed", x.memberNumber(2, 5), 1);
            for (int what = 3; what < 6; what++) {
                check.due("b has no part in it", x.memberNumber(1, what), 0);
            }
            check.due("got by a", x.memberNumber(0, 4), 0);
            check.due("given by c", x.memberNumber(2, 3), 0);
        }
        // all 16 cells: c has 10 faults in one turn and 6 in the next one
        LockstepRoom y = Check.loaded("member a 1;member b 1;member c 1;seal;seal;");
        for (int c = 0; c < 16; c++) {
            y.fault(2, 0, c, 1);
            if (c == 9) {
                y.run(2, 1);
            }
            if (c > 9) {
                y.fault(2, 1, c, 1);
            }
        }
        y.run(2, 1);
        y.run(0, 2);
        y.run(1, 2);
        check.due("heal of all cells", y.heal(2), 16);
        check.due("got", y.memberNumber(2, 4), 16);
        check.due("cells", cells(y, 2), zerosBut(0, 0));
    }

    private static void theRecordAtThisNumber() {
        check.about("The record of the member at this number of turns becomes that of the donor; what it was before stays as it is");
        LockstepRoom x = Check.loaded("member a 1;member b 1;member c 1;fault c 0 0 1;do a add 1 1;seal;do a add 1 1;seal;do a add 1 1;seal;");
        x.tick();
        x.tick();
        int at0 = x.rootAt(2, 0);
        int at1 = x.rootAt(2, 1);
        int at2 = x.rootAt(2, 2);
        check.due("heal", x.heal(2), 1);
        check.due("at 0", x.rootAt(2, 0), at0);
        check.due("at 1", x.rootAt(2, 1), at1);
        check.due("at 2", x.rootAt(2, 2), x.rootAt(0, 2));
        check.due("at 2 it was another one", x.rootAt(2, 2) != at2, true);
        check.due("at 3 there is none yet", x.rootAt(2, 3), NONE);
        check.due("first divergence", x.firstWrongTurn(0, 2), 1);
        check.due("halving finds nothing", x.halvedTurn(0, 2), NONE);
        check.due("halving is not right", x.isHalvingRight(0, 2), false);
        x.tick();
        check.due("it goes on with the others", x.votes(2, 3), 3);
        check.due("at 1 it stays alone", x.votes(2, 1), 1);
    }

    // ---- JOINING

    private static void joining() {
        theLeastNumberOfTurns();
        thereMustBeAVote();
        donorOfOneWhoJoins();
        allSixteenCells();
    }

    private static void theLeastNumberOfTurns() {
        check.about("A member who joins begins with the least number of turns that an active member has executed");
        LockstepRoom x = Check.loaded("set quorum 1;start 1;member a 1;member b 1;member c 1;" + "do a add 0 1;seal;".repeat(40));
        check.due("join at 0", x.join(4), 3);
        check.due("executed", x.memberNumber(3, 1), 0);
        check.due("cells", cells(x, 3), zerosBut(0, 1));
        x.leave(3);
        x.run(0, 40);
        x.run(1, 40);
        x.run(2, 39);
        check.due("join at 39", x.join(1), 4);
        check.due("executed", x.memberNumber(4, 1), 39);
        check.due("cells", cells(x, 4), zerosBut(0, 40));
        check.due("mayRun", x.mayRun(4), 1);
        x.leave(2);
        x.leave(4);
        check.due("join at 40", x.join(1), 5);
        check.due("executed", x.memberNumber(5, 1), 40);
        check.due("cells", cells(x, 5), zerosBut(0, 41));
        check.due("mayRun", x.mayRun(5), 0);
        check.due("record", x.rootAt(5, 40), x.rootAt(0, 40));
        check.due("record", x.rootAt(5, 39), NONE);
        check.due("lastWrite, also ahead of joining", x.lastWrite(5, 0), 39);
    }

    private static void thereMustBeAVote() {
        check.about("there must be a vote at it");
        check.due("an empty room", new LockstepRoom().join(1), LockstepRoom.NOT_ALLOWED);
        LockstepRoom x = groups("0001--", 3);
        x.leave(5);
        check.due("join", x.join(1), LockstepRoom.FULL);
        LockstepRoom y = Check.loaded("set quorum 2;member a 1;member b 1;member c 1;seal;seal;fault b 0 0 1;");
        y.tick();
        check.due("a group of two at 1", y.join(1), 3);
        y.undo();
        y.leave(0);
        check.due("two groups of one at 1", y.join(1), LockstepRoom.NOT_ALLOWED);
        y.setSetting(QUORUM, 1);
        check.due("with quorum 1", y.join(1), 3);
        check.due("the cells of the group that wins", y.cellOf(3, 0), 1);
        y.undo();
        y.leave(1);
        y.leave(2);
        check.due("nobody is active", y.join(1), LockstepRoom.NOT_ALLOWED);
    }

    private static void donorOfOneWhoJoins() {
        check.about("Its donor is, of the active members of the group that wins and have executed just as many turns, that which gave the fewest cells so far; ties are broken by lower index");
        LockstepRoom x = Check.loaded("member a 1;member b 1;");
        int[] donors = {0, 1, 2, 3};
        for (int n = 0; n < 4; n++) {
            check.due("join", x.join(1), 2 + n);
            for (int m = 0; m < 3 + n; m++) {
                check.due("given by " + m, x.memberNumber(m, 3), m <= donors[n] ? 16 : 0);
            }
        }
        // the group that wins has gone on, but for one who left
        LockstepRoom y = Check.loaded("member a 1;member b 1;member c 1;member d 1;seal;seal;fault d 0 0 1;");
        y.tick();
        y.run(0, 1);
        y.run(1, 1);
        y.leave(2);
        check.due("a vote at 1, but no donor", y.winner(1), 0);
        check.due("join", y.join(1), LockstepRoom.NOT_ALLOWED);
        y.undo();
        check.due("join with c", y.join(1), 4);
        check.due("given by c", y.memberNumber(2, 3), 16);
        check.due("cells of c", cells(y, 4), zerosBut(0, 0));
    }

    private static void allSixteenCells() {
        check.about("All 16 cells are copied (given and got). Its record begins with this number of turns");
        LockstepRoom x = Check.loaded("start 1 2 3 4 5 6 7 8 9 10 11 12 13 14 15 16;member a 1;member b 1;seal;seal;");
        x.tick();
        check.due("join", x.join(3), 2);
        check.due("cells", cells(x, 2), "1 2 3 4 5 6 7 8 9 10 11 12 13 14 15 16");
        int[] due = {3, 1, 1, 0, 16, 0};
        for (int what = 0; what < 6; what++) {
            check.due("memberNumber(2, " + what + ")", x.memberNumber(2, what), due[what]);
        }
        check.due("given", x.memberNumber(0, 3), 16);
        check.due("given", x.memberNumber(1, 3), 0);
        check.due("record at 0", x.rootAt(2, 0), NONE);
        check.due("record at 1", x.rootAt(2, 1), x.rootAt(0, 1));
        check.due("record at 2", x.rootAt(2, 2), NONE);
        check.due("no name", x.memberNamed(0), NONE);
        check.due("written", Check.written(x, 2).charAt(0), '*');
    }

    // ---- CHANGES

    private static LockstepRoom changing() {
        LockstepRoom x = Check.loaded("start 5 6;member a 1;member b 2;member c 1;fault c 0 3 9;fault b 0 4 9;fault a 5 5 5;do a add 0 1;seal;do b mul 1 1;seal;seal;do c put 7 7;");
        x.tick();
        return x;
    }

    private static void changes() {
        eachCallIsOneChange();
        theLastOfEachRow();
        theTenLatest();
        nothingDifferentIsAChange();
        undoLeavesTheBuffers();
    }

    private static void eachCallIsOneChange() {
        check.about("each call is one change. A change can be undone; everything is then as before it");
        Snapshot.Step[] changes = {x -> x.give(2, LockstepRoom.SWAP, 0, 15), x -> x.seal(), x -> x.run(2, 1), x -> x.run(0, 2), x -> x.tick(), x -> x.fault(1, 39, 15, 9999),
            x -> x.heal(2), x -> x.healAll(), x -> x.join(4), x -> x.leave(0), x -> x.leave(2), x -> x.setSetting(LAG, 1), x -> x.setSetting(QUORUM, 6)};
        for (int k = 0; k < changes.length; k++) {
            Snapshot.Step change = changes[k];
            // at 1 a is alone with its cells, b is at 2; so that there is somebody to heal, quorum is 1
            Snapshot.Recipe before = () -> {
                LockstepRoom x = changing();
                x.setSetting(QUORUM, 1);
                return x;
            };
            Snapshot.Recipe behind = Snapshot.then(before, change);
            check.due("change " + k + " is made", before.make().undoCount() + 1, behind.make().undoCount());
            check.due("change " + k + " makes something different", Snapshot.of(behind).equals(Snapshot.of(before)), false);
            Snapshot.Recipe undone = Snapshot.then(behind, x -> x.undo());
            check.due("undo of change " + k, Snapshot.of(undone), Snapshot.of(before));
            check.due("change " + k + " once more", Snapshot.of(Snapshot.then(undone, change)), Snapshot.of(behind));
        }
    }

    /** The first and the last cell, record, member, fault and command come back, too. */
    private static void theLastOfEachRow() {
        check.about("everything is then as before it");
        Snapshot.Recipe full = () -> {
            LockstepRoom x = Check.loaded(SIX + "set quorum 1;fault a 39 3 7;fault f 39 0 1;fault f 39 15 1;" + "seal;".repeat(39) + "do a add 0 9999;do f add 15 9999;".repeat(4));
            for (int n = 0; n < 7; n++) {
                x.fault(5, 38, n + 1, 9999 - n);
            }
            for (int m = 0; m < 6; m++) {
                x.run(m, 38);
            }
            return x;
        };
        Snapshot.Step[] steps = {x -> x.seal(), x -> x.run(5, 1), x -> x.run(5, 1), x -> x.run(0, 2), x -> x.heal(5), x -> x.give(5, PUT, 15, 9999), x -> x.leave(5), x -> x.leave(0)};
        Snapshot.Recipe before = full;
        for (int k = 0; k < steps.length; k++) {
            Snapshot.Recipe behind = Snapshot.then(before, steps[k]);
            check.due("step " + k + " makes something different", withoutUndoCount(behind).equals(withoutUndoCount(before)), false);
            check.due("undo of step " + k, withoutUndoCount(Snapshot.then(behind, x -> x.undo())), withoutUndoCount(before));
            before = behind;
        }
        LockstepRoom end = before.make();
        check.due("healed at 40", end.memberNumber(5, 5), 1);
        check.due("ten faults", full.make().count(3), 10);
        for (int gone : new int[] {0, 5}) {
            Snapshot.Recipe left = Snapshot.then(full, x -> x.leave(gone));
            check.due("faults of the others", left.make().count(3), gone == 0 ? 9 : 1);
            check.due("undo of leave", withoutUndoCount(Snapshot.then(left, x -> x.undo())), withoutUndoCount(full));
        }
        // another fault takes the place of the tenth
        LockstepRoom x = full.make();
        x.leave(0);
        check.due("a tenth fault", x.fault(4, 38, 12, 13), 10);
        x.undo();
        x.undo();
        int[] due = {5, 38, 7, 9993};
        for (int what = 0; what < 4; what++) {
            check.due("faultNumber(9, " + what + ")", x.faultNumber(9, what), due[what]);
        }
    }

    /** More than ten changes were made, so that one more and its undo leave nine. */
    private static String withoutUndoCount(Snapshot.Recipe recipe) {
        return Snapshot.room(recipe).replaceFirst("^((?: \\d+){4}) \\d+", "$1");
    }

    private static void theTenLatest() {
        check.about("At most the 10 latest changes are kept");
        for (int changes = 0; changes <= 33; changes++) {
            LockstepRoom x = new LockstepRoom();
            for (int n = 1; n <= changes; n++) {
                x.seal();
                check.due("undoCount behind " + n, x.undoCount(), Math.min(n, 10));
            }
            int kept = Math.min(changes, 10);
            for (int left = kept - 1; left >= 0; left--) {
                check.due("undo", x.undo(), left);
                check.due("undoCount", x.undoCount(), left);
                check.due("sealed", x.count(1), changes - kept + left);
            }
            check.due("undo of none", x.undo(), NONE);
            check.due("undo of none", x.undo(), NONE);
            check.due("undoCount", x.undoCount(), 0);
            check.due("sealed", x.count(1), changes - kept);
        }
        // changes and undone ones by turns go round the ten places that there are
        LockstepRoom y = new LockstepRoom();
        int sealed = 0;
        for (int n = 0; n < 12; n++) {
            for (int k = 0; k < 4; k++) {
                check.due("seal", y.seal(), ++sealed);
            }
            for (int k = 0; k < 3; k++) {
                y.undo();
                check.due("sealed", y.count(1), --sealed);
            }
            check.due("undoCount", y.undoCount(), Math.min(n + 1, 7));
        }
    }

    private static void nothingDifferentIsAChange() {
        check.about("If a change makes nothing different, it is a change all the same");
        LockstepRoom x = Check.loaded("member a 1;member b 1;");
        check.due("setSetting to what it is", x.setSetting(LAG, 40), 40);
        check.due("undoCount", x.undoCount(), 1);
        check.due("setSetting to what it is", x.setSetting(QUORUM, 2), 2);
        check.due("undoCount", x.undoCount(), 2);
        check.due("run of none", x.run(0, 1), 0);
        check.due("undoCount", x.undoCount(), 3);
        check.due("tick of none", x.tick(), 0);
        check.due("undoCount", x.undoCount(), 4);
        LockstepRoom y = new LockstepRoom();
        check.due("tick of nobody", y.tick(), 0);
        check.due("undoCount", y.undoCount(), 1);
        // they drive out those before
        LockstepRoom z = new LockstepRoom();
        z.seal();
        for (int n = 0; n < 10; n++) {
            z.tick();
        }
        for (int n = 9; n >= 0; n--) {
            check.due("undo", z.undo(), n);
        }
        check.due("undo", z.undo(), NONE);
        check.due("the seal cannot be undone any more", z.count(1), 1);
    }

    private static void undoLeavesTheBuffers() {
        check.about("everything but the buffers and the error position (which stays that of the latest load) is then as before it");
        LockstepRoom x = changing();
        Check.load(x, "seal x");
        check.due("errorPosition", x.errorPosition(), 5);
        x.seal();
        x.feed(0x7365616c, 0x3b207365, 0x616c3b20, 0x20202020, 0x20202020);
        int length = x.write(1);
        check.due("undo", x.undo(), 1);
        check.due("errorPosition behind undo", x.errorPosition(), 5);
        check.due("first character behind undo", x.outputAt(0), 'b');
        check.due("last character behind undo", x.outputAt(length - 1), '0');
        check.due("behind the last one", x.outputAt(length), NONE);
        check.due("the input stays", x.feed(0, 0, 0, 0, 0), 40);
        check.due("load of it", x.load(20), 2);
    }
}
