/** Promises 5 to 13: what is in the room; 35, 36 and 39: give, seal and fault; 46 and 47: write and outputAt. */
public final class CommandsTest {
    private static final Check check = new Check();

    public static void main(String[] args) {
        counts();
        named();
        memberNumbers();
        settings();
        cells();
        order();
        commandsOfATurn();
        faults();
        giving();
        sealing();
        fullScript();
        telling();
        writing();
        check.finish();
    }

    // Promise 5
    private static void counts() {
        LockstepRoom x = Check.loaded("member a 1;member b 1;seal;do a put 0 1;fault a 0 0 1;fault b 0 0 1;fault b 1 0 1;");
        check.due("count(0)", x.count(0), 2);
        check.due("count(1)", x.count(1), 1);
        check.due("count(2)", x.count(2), 1);
        check.due("count(3)", x.count(3), 3);
        check.due("count(4)", x.count(4), LockstepRoom.BAD_VALUE);
        check.due("count(-1)", x.count(-1), LockstepRoom.BAD_VALUE);
        x.leave(1);
        check.due("count(0) with one who left", x.count(0), 2);
        check.due("count(3) without what waited for him", x.count(3), 1);
        x.run(0, 1);
        check.due("count(3) after the fault", x.count(3), 0);
        x.seal();
        check.due("count(2) after seal", x.count(2), 0);
    }

    // Promise 7
    private static void named() {
        LockstepRoom x = Check.loaded("member zzzzzz 1;member a 1;member ab 1;member ba 1;seal;");
        check.due("zzzzzz", x.memberNamed(Check.letters("zzzzzz")), 0);
        check.due("a", x.memberNamed(1 << 25), 1);
        check.due("ab", x.memberNamed(1 << 25 | 2 << 20), 2);
        check.due("ba", x.memberNamed(2 << 25 | 1 << 20), 3);
        check.due("a in the lowest group", x.memberNamed(1), LockstepRoom.NOT_FOUND);
        check.due("aba", x.memberNamed(Check.letters("aba")), LockstepRoom.NOT_FOUND);
        check.due("a and a bit above", x.memberNamed(1 << 25 | 1 << 30), LockstepRoom.NOT_FOUND);
        check.due("-1", x.memberNamed(-1), LockstepRoom.NOT_FOUND);
        x.join(1);
        check.due("no letters", x.memberNamed(0), LockstepRoom.NOT_FOUND);
        x.leave(2);
        check.due("one who left", x.memberNamed(Check.letters("ab")), 2);
    }

    // Promise 8; gave, got and healed are in VotesTest, too
    private static void memberNumbers() {
        LockstepRoom x = Check.loaded("member a 3;member b 1;seal;seal;");
        check.due("pace", x.memberNumber(0, 0), 3);
        x.run(0, 2);
        check.due("executed", x.memberNumber(0, 1), 2);
        check.due("executed", x.memberNumber(1, 1), 0);
        check.due("active", x.memberNumber(1, 2), 1);
        x.leave(1);
        check.due("left", x.memberNumber(1, 2), 0);
        for (int what = 3; what < 6; what++) {
            check.due("memberNumber(0, " + what + ")", x.memberNumber(0, what), 0);
        }
        check.due("what 6", x.memberNumber(0, 6), LockstepRoom.BAD_VALUE);
        check.due("what -1", x.memberNumber(0, -1), LockstepRoom.BAD_VALUE);
        check.noMember("memberNumber", m -> x.memberNumber(m, 0), 2);
        check.noMember("memberNumber", m -> x.memberNumber(m, 6), 2);
    }

    // Promises 9 and 44
    private static void settings() {
        LockstepRoom x = new LockstepRoom();
        check.due("getSetting(2)", x.getSetting(2), LockstepRoom.BAD_VALUE);
        check.due("getSetting(-1)", x.getSetting(-1), LockstepRoom.BAD_VALUE);
        check.due("set lag", x.setSetting(LockstepRoom.LAG, 1), 40);
        check.due("set lag", x.setSetting(LockstepRoom.LAG, 40), 1);
        check.due("set lag", x.setSetting(LockstepRoom.LAG, 39), 40);
        check.due("set quorum", x.setSetting(LockstepRoom.QUORUM, 6), 2);
        check.due("set quorum", x.setSetting(LockstepRoom.QUORUM, 1), 6);
        check.due("set quorum", x.setSetting(LockstepRoom.QUORUM, 5), 1);
        check.due("lag", x.getSetting(LockstepRoom.LAG), 39);
        check.due("quorum", x.getSetting(LockstepRoom.QUORUM), 5);
        int changes = x.undoCount();
        check.due("set lag 0", x.setSetting(LockstepRoom.LAG, 0), LockstepRoom.BAD_VALUE);
        check.due("set lag 41", x.setSetting(LockstepRoom.LAG, 41), LockstepRoom.BAD_VALUE);
        check.due("set quorum 0", x.setSetting(LockstepRoom.QUORUM, 0), LockstepRoom.BAD_VALUE);
        check.due("set quorum 7", x.setSetting(LockstepRoom.QUORUM, 7), LockstepRoom.BAD_VALUE);
        check.due("set 2", x.setSetting(2, 1), LockstepRoom.BAD_VALUE);
        check.due("set -1", x.setSetting(-1, 1), LockstepRoom.BAD_VALUE);
        check.due("no changes", x.undoCount(), changes);
    }

    // Promise 10
    private static void cells() {
        LockstepRoom x = Check.loaded("start 9 8 7 6 5 4 3 2 1 0 11 12 13 14 15 9999;member a 1;");
        check.due("cell 0", x.cellOf(0, 0), 9);
        check.due("cell 15", x.cellOf(0, 15), 9999);
        check.noIndex("cell 16", () -> x.cellOf(0, 16));
        check.noIndex("cell -1", () -> x.cellOf(0, -1));
        check.noMember("cellOf", m -> x.cellOf(m, 0), 1);
    }

    /** By ascending authors, those of one author as they were given; undo brings back the order in which they were given. */
    private static void order() {
        LockstepRoom x = Check.loaded("member a 1;member b 1;member c 1;");
        int[] authors = {2, 0, 1, 0, 2, 1, 0, 2};
        for (int k = 0; k < 8; k++) {
            check.due("give", x.give(authors[k], LockstepRoom.PUT, 3, k), k + 1);
        }
        x.seal();
        int[] due = {1, 3, 6, 2, 5, 0, 4, 7};
        for (int k = 0; k < 8; k++) {
            check.due("operand of command " + k, x.command(0, k, 3), due[k]);
            check.due("author of command " + k, x.command(0, k, 0), authors[due[k]]);
        }
        x.run(0, 1);
        check.due("the last one counts", x.cellOf(0, 3), 7);
        x.undo();
        x.undo();
        x.undo();
        x.undo();
        check.due("open commands after undo", x.count(2), 6);
        x.give(1, LockstepRoom.ADD, 3, 99);
        x.seal();
        int[] dueThen = {1, 3, 2, 5, 99, 0, 4};
        check.due("commands", x.commandCount(0), 7);
        for (int k = 0; k < 7; k++) {
            check.due("operand of command " + k + " after undo", x.command(0, k, 3), dueThen[k]);
        }
    }

    // Promises 11 and 12
    private static void commandsOfATurn() {
        LockstepRoom x = Check.loaded("member a 1;do a swap 4 15;seal;seal;do a put 1 1;");
        check.due("commandCount(0)", x.commandCount(0), 1);
        check.due("commandCount(1)", x.commandCount(1), 0);
        check.noIndex("commandCount(2)", () -> x.commandCount(2));
        check.noIndex("commandCount(-1)", () -> x.commandCount(-1));
        int[] due = {0, LockstepRoom.SWAP, 4, 15, LockstepRoom.BAD_VALUE};
        for (int what = 0; what < 5; what++) {
            check.due("command(0, 0, " + what + ")", x.command(0, 0, what), due[what]);
        }
        check.due("command(0, 0, -1)", x.command(0, 0, -1), LockstepRoom.BAD_VALUE);
        check.due("command(0, 1, 0)", x.command(0, 1, 0), LockstepRoom.NOT_FOUND);
        check.due("command(0, 1, 9)", x.command(0, 1, 9), LockstepRoom.NOT_FOUND);
        check.due("command(0, -1, 0)", x.command(0, -1, 0), LockstepRoom.NOT_FOUND);
        check.due("command(1, 0, 0)", x.command(1, 0, 0), LockstepRoom.NOT_FOUND);
        check.noIndex("command(2, 0, 0)", () -> x.command(2, 0, 0));
        check.noIndex("command(2, 9, 9)", () -> x.command(2, 9, 9));
        check.noIndex("command(-1, 9, 9)", () -> x.command(-1, 9, 9));
    }

    // Promise 13
    private static void faults() {
        LockstepRoom x = Check.loaded("member a 1;member b 1;fault a 1 2 3;fault b 0 15 9999;fault a 0 5 6;fault b 39 7 8;seal;seal;");
        int[][] due = {{0, 1, 2, 3}, {1, 0, 15, 9999}, {0, 0, 5, 6}, {1, 39, 7, 8}};
        for (int f = 0; f < 4; f++) {
            for (int what = 0; what < 4; what++) {
                check.due("faultNumber(" + f + ", " + what + ")", x.faultNumber(f, what), due[f][what]);
            }
        }
        check.due("faultNumber(3, 4)", x.faultNumber(3, 4), LockstepRoom.BAD_VALUE);
        check.due("faultNumber(0, -1)", x.faultNumber(0, -1), LockstepRoom.BAD_VALUE);
        check.noIndex("faultNumber(4, 4)", () -> x.faultNumber(4, 4));
        check.noIndex("faultNumber(-1, 0)", () -> x.faultNumber(-1, 0));
        x.run(0, 1);
        check.due("the others keep their order", x.faultNumber(0, 1), 1);
        check.due("the others keep their order", x.faultNumber(1, 2), 15);
        check.due("the others keep their order", x.faultNumber(2, 1), 39);
        check.noIndex("faultNumber(3, 0)", () -> x.faultNumber(3, 0));
    }

    // Promise 35
    private static void giving() {
        LockstepRoom x = Check.loaded("member a 1;member b 1;");
        x.leave(1);
        check.due("author 2", x.give(2, 9, 0, 0), LockstepRoom.NOT_FOUND);
        check.due("author -1", x.give(-1, 0, 0, 0), LockstepRoom.NOT_FOUND);
        check.due("sort 6", x.give(0, 6, 0, 0), LockstepRoom.BAD_VALUE);
        check.due("sort -1", x.give(0, -1, 0, 0), LockstepRoom.BAD_VALUE);
        check.due("cell 16", x.give(1, 0, 16, 0), LockstepRoom.BAD_VALUE);
        check.due("cell -1", x.give(0, 0, -1, 0), LockstepRoom.BAD_VALUE);
        for (int sort = 0; sort < 6; sort++) {
            int greatest = sort < 2 ? 9999 : 15;
            check.due("operand beyond", x.give(1, sort, 0, greatest + 1), LockstepRoom.BAD_VALUE);
            check.due("operand -1", x.give(0, sort, 0, -1), LockstepRoom.BAD_VALUE);
            check.due("one who left", x.give(1, sort, 0, greatest), LockstepRoom.NOT_ALLOWED);
        }
        check.due("nothing changed", x.undoCount(), 1);
        for (int sort = 0; sort < 6; sort++) {
            check.due("give", x.give(0, sort, 15, sort < 2 ? 9999 : 15), sort + 1);
        }
        check.due("give", x.give(0, 0, 0, 0), 7);
        check.due("give", x.give(0, 0, 0, 0), 8);
        check.due("a ninth", x.give(0, 0, 0, 0), LockstepRoom.FULL);
        check.due("a ninth of one who left", x.give(1, 0, 0, 0), LockstepRoom.NOT_ALLOWED);
        check.due("a ninth out of range", x.give(0, 0, 16, 0), LockstepRoom.BAD_VALUE);
        check.due("changes", x.undoCount(), 9);
        x.seal();
        check.due("give to the next turn", x.give(0, 0, 0, 0), 1);
    }

    // Promise 36
    private static void sealing() {
        LockstepRoom x = Check.loaded("member a 1;");
        for (int turn = 0; turn < 40; turn++) {
            check.due("seal", x.seal(), turn + 1);
        }
        check.due("a 41st seal", x.seal(), LockstepRoom.FULL);
        check.due("sealed", x.count(1), 40);
        check.due("give behind the last turn", x.give(0, 0, 15, 5), 1);
        for (int k = 2; k <= 8; k++) {
            check.due("give behind the last turn", x.give(0, 0, 15, 5), k);
        }
        check.due("a 41st seal", x.seal(), LockstepRoom.FULL);
        check.due("run", x.run(0, 40), 40);
        check.due("no command was executed", x.cellOf(0, 15), 0);
        check.due("rootAt(40)", x.rootAt(0, 40), x.checksum(0, 1));
    }

    private static void fullScript() {
        LockstepRoom x = Check.loaded("member a 1;member b 1;");
        for (int turn = 0; turn < 40; turn++) {
            for (int k = 0; k < 8; k++) {
                x.give((k + 1) % 2, LockstepRoom.ADD, turn % 16, turn * 8 + k);
            }
            x.seal();
        }
        for (int turn = 0; turn < 40; turn++) {
            check.due("commands", x.commandCount(turn), 8);
            check.due("operand", x.command(turn, 7, 3), turn * 8 + 6);
        }
        x.run(1, 40);
        check.due("cell", x.cellOf(1, 15), 8 * (120 + 248) + 2 * 28);
        check.due("truth", x.truth(40, 7), 8 * (56 + 184 + 312) + 3 * 28);
    }

    // Promise 39
    private static void telling() {
        LockstepRoom x = Check.loaded("member a 1;member b 1;seal;seal;");
        x.run(0, 1);
        x.leave(1);
        check.due("member 2", x.fault(2, 99, 0, 1), LockstepRoom.NOT_FOUND);
        check.due("member -1", x.fault(-1, 0, 0, 1), LockstepRoom.NOT_FOUND);
        check.due("turn 40", x.fault(1, 40, 0, 1), LockstepRoom.BAD_VALUE);
        check.due("turn -1", x.fault(0, -1, 0, 1), LockstepRoom.BAD_VALUE);
        check.due("cell 16", x.fault(0, 0, 16, 1), LockstepRoom.BAD_VALUE);
        check.due("cell -1", x.fault(0, 1, -1, 1), LockstepRoom.BAD_VALUE);
        check.due("amount 0", x.fault(0, 0, 0, 0), LockstepRoom.BAD_VALUE);
        check.due("amount 10000", x.fault(0, 1, 0, 10000), LockstepRoom.BAD_VALUE);
        check.due("one who left", x.fault(1, 1, 0, 1), LockstepRoom.NOT_ALLOWED);
        check.due("a turn that he has executed", x.fault(0, 0, 0, 1), LockstepRoom.NOT_ALLOWED);
        check.due("nothing changed", x.undoCount(), 2);
        for (int n = 1; n <= 10; n++) {
            check.due("fault", x.fault(0, n % 2 == 0 ? 1 : 39, 15, 9999), n);
        }
        check.due("an 11th", x.fault(0, 1, 0, 1), LockstepRoom.FULL);
        check.due("an 11th of a turn that he has executed", x.fault(0, 0, 0, 1), LockstepRoom.NOT_ALLOWED);
        x.run(0, 1);
        check.due("five of one turn", x.cellOf(0, 15), 9995);
        check.due("waiting", x.count(3), 5);
        check.due("fault", x.fault(0, 2, 0, 1), 6);
    }

    // Promises 46 and 47
    private static void writing() {
        LockstepRoom x = Check.loaded("start 0 10 200 3000 9999;member abcdef 1;member z 1;");
        check.due("write", Check.written(x, 0), "abcdef: 0 10 200 3000 9999 0 0 0 0 0 0 0 0 0 0 0");
        x.join(2);
        check.due("write", Check.written(x, 2), "*: 0 10 200 3000 9999 0 0 0 0 0 0 0 0 0 0 0");
        check.due("write", Check.written(x, 1), "z: 0 10 200 3000 9999 0 0 0 0 0 0 0 0 0 0 0");
        check.due("behind the last one", x.outputAt(x.write(1)), LockstepRoom.NOT_FOUND);
        check.due("outputAt(-1)", x.outputAt(-1), LockstepRoom.NOT_FOUND);
        check.due("outputAt(MAX)", x.outputAt(Integer.MAX_VALUE), LockstepRoom.NOT_FOUND);
        check.noMember("write", x::write, 3);
        check.due("the output stays", x.outputAt(0), 'z');
        x.undo();
        check.due("the output stays after undo", x.outputAt(0), 'z');
        LockstepRoom y = Check.loaded("start" + " 9999".repeat(16) + ";member zzzzzz 1;");
        check.due("the longest", y.write(0), 87);
        check.due("its last one", y.outputAt(86), '9');
    }
}
