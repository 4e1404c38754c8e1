/** Promises 28 to 34, 37 and 38: how far members have come and may come, truth, foresight, run and tick. */
public final class TurnsTest {
    private static final Check check = new Check();

    public static void main(String[] args) {
        sorts();
        sortsOnOneCell();
        reaching();
        lag();
        mean();
        truth();
        trueMembers();
        foreseen();
        lastWrite();
        running();
        ticking();
        faultsOfATurn();
        check.finish();
    }

    private static void cells(String call, LockstepRoom x, int member, String due) {
        check.due(call, Check.written(x, member).replaceAll("( 0)*$", ""), due);
    }

    private static void sorts() {
        String begin = "start 3 70 7000 150;member a 1;do a ";
        String[] texts = {"put 1 9999", "put 1 0", "add 2 2999", "add 2 3000", "add 2 9999", "copy 0 2", "sum 2 2", "sum 2 0", "sum 0 1",
            "swap 0 3", "swap 3 0", "mul 1 3", "mul 0 1", "mul 2 4"};
        String[] due = {"3 9999 7000 150", "3 0 7000 150", "3 70 9999 150", "3 70 0 150", "3 70 6999 150", "7000 70 7000 150",
            "3 70 4000 150", "3 70 7003 150", "73 70 7000 150", "150 70 7000 3", "150 70 7000 3", "3 500 7000 150", "210 70 7000 150",
            "3 70 0 150"};
        for (int k = 0; k < texts.length; k++) {
            LockstepRoom x = Check.loaded(begin + texts[k] + ";seal;");
            x.run(0, 1);
            cells(texts[k], x, 0, "a: " + due[k]);
        }
    }

    private static void sortsOnOneCell() {
        String[] texts = {"copy 1 1", "sum 1 1", "swap 1 1", "mul 1 1"};
        String[] due = {"9999", "9998", "9999", "1"};
        for (int k = 0; k < texts.length; k++) {
            LockstepRoom x = Check.loaded("start 0 9999;member a 1;do a " + texts[k] + ";seal;");
            x.run(0, 1);
            cells(texts[k], x, 0, "a: 0 " + due[k]);
        }
    }

    // Promise 28
    private static void reaching() {
        LockstepRoom x = Check.loaded("member a 1;member b 1;member c 1;seal;seal;seal;");
        check.due("least", x.reached(false), 0);
        check.due("greatest", x.reached(true), 0);
        x.run(0, 3);
        x.run(1, 2);
        x.run(2, 1);
        check.due("least", x.reached(false), 1);
        check.due("greatest", x.reached(true), 3);
        x.leave(0);
        check.due("greatest without a", x.reached(true), 2);
        x.leave(2);
        check.due("least without c", x.reached(false), 2);
        x.leave(1);
        check.due("least of none", x.reached(false), LockstepRoom.NOT_FOUND);
        check.due("greatest of none", x.reached(true), LockstepRoom.NOT_FOUND);
    }

    // Promise 29
    private static void lag() {
        LockstepRoom x = Check.loaded("member a 1;member b 1;set lag 2;seal;seal;seal;seal;seal;");
        check.due("mayRun", x.mayRun(0), 2);
        check.due("run", x.run(0, 5), 2);
        check.due("mayRun", x.mayRun(0), 0);
        check.due("run", x.run(1, 1), 1);
        check.due("mayRun", x.mayRun(0), 1);
        check.due("mayRun of the last one", x.mayRun(1), 2);
        check.due("the last one does not pull himself", x.run(1, 4), 2);
        check.due("run", x.run(0, 40), 2);
        x.setSetting(LockstepRoom.LAG, 1);
        x.undo();
        check.due("mayRun", x.mayRun(1), 2);
        check.due("run", x.run(1, 4), 2);
        check.due("lag against sealed", x.mayRun(0), 1);
        x.undo();
        x.undo();
        x.undo();
        x.undo();
        x.setSetting(LockstepRoom.LAG, 1);
        check.due("further than he may", x.mayRun(0), 0);
        check.due("run further than he may", x.run(0, 3), 0);
        check.due("executed", x.memberNumber(0, 1), 2);
        x.leave(1);
        check.due("who left holds back none", x.mayRun(0), 1);
        check.due("who left may not", x.mayRun(1), 0);
        check.noMember("mayRun", x::mayRun, 2);
    }

    // Promise 30
    private static void mean() {
        LockstepRoom x = Check.loaded("member a 1;member b 1;member c 1;seal;seal;");
        check.due("mean", x.meanTurns(), 0.0);
        x.run(0, 2);
        check.due("mean", x.meanTurns(), 2.0 / 3.0);
        x.run(1, 2);
        check.due("mean", x.meanTurns(), 4.0 / 3.0);
        x.leave(2);
        check.due("mean without c", x.meanTurns(), 2.0);
        x.leave(1);
        x.leave(0);
        check.due("mean of none", x.meanTurns(), 0.0);
        check.due("mean in a new room", new LockstepRoom().meanTurns(), 0.0);
    }

    // Promise 31
    private static void truth() {
        LockstepRoom x = Check.loaded("start 1;member a 1;fault a 0 0 5;do a add 0 1;seal;do a copy 15 0;seal;do a put 0 9;");
        x.run(0, 2);
        check.due("truth(0, 0)", x.truth(0, 0), 1);
        check.due("truth(1, 0)", x.truth(1, 0), 2);
        check.due("truth(1, 15)", x.truth(1, 15), 0);
        check.due("truth(2, 15)", x.truth(2, 15), 2);
        check.due("truth(3, 0)", x.truth(3, 0), LockstepRoom.NOT_FOUND);
        check.due("truth(-1, 0)", x.truth(-1, 0), LockstepRoom.NOT_FOUND);
        check.noIndex("truth(0, 16)", () -> x.truth(0, 16));
        check.noIndex("truth(0, -1)", () -> x.truth(0, -1));
        check.noIndex("truth(9, 16)", () -> x.truth(9, 16));
    }

    // Promise 32
    private static void trueMembers() {
        LockstepRoom x = Check.loaded("start 1;member a 1;member b 1;member c 1;fault b 0 15 1;do a put 15 0;seal;do b put 15 4;seal;");
        check.due("all", x.trueMembers(), 7);
        x.run(0, 1);
        x.run(1, 1);
        check.due("a and c", x.trueMembers(), 5);
        x.run(1, 1);
        check.due("all again", x.trueMembers(), 7);
        x.leave(0);
        check.due("with one who left", x.trueMembers(), 7);
        check.due("of none", new LockstepRoom().trueMembers(), 0);
        LockstepRoom y = Check.loaded("member a 1;member b 1;do a add 0 1;seal;do a add 0 1;seal;fault b 0 0 1;");
        y.run(0, 1);
        check.due("behind the first turn", y.trueMembers(), 3);
        y.run(1, 1);
        check.due("but for the one with a fault", y.trueMembers(), 1);
        y.run(0, 1);
        check.due("but for the one with a fault", y.trueMembers(), 1);
    }

    // Promise 33
    private static void foreseen() {
        LockstepRoom x = Check.loaded("member a 1;member b 1;set lag 1;do a add 0 1;seal;do a add 0 10;seal;do a mul 0 1;seal;do a put 0 5;"
            + "fault a 1 1 3;fault a 0 1 1;fault b 0 1 2;fault a 3 0 9;");
        check.due("foreseen(0, 0)", x.foreseen(0, 0), 44);
        check.due("foreseen(0, 1)", x.foreseen(0, 1), 4);
        check.due("foreseen(1, 0)", x.foreseen(1, 0), 22);
        check.due("foreseen(1, 2)", x.foreseen(1, 2), 0);
        check.due("faults wait on", x.count(3), 4);
        check.due("cells stay", x.cellOf(0, 0), 0);
        x.run(0, 1);
        check.due("foreseen behind a turn", x.foreseen(0, 0), 44);
        check.due("foreseen behind a turn", x.foreseen(0, 1), 4);
        x.leave(1);
        check.due("of one who left", x.foreseen(1, 0), 0);
        x.setSetting(LockstepRoom.LAG, 40);
        x.run(0, 3);
        check.due("behind all", x.foreseen(0, 0), 44);
        check.noIndex("foreseen(0, 16)", () -> x.foreseen(0, 16));
        check.noIndex("foreseen(0, -1)", () -> x.foreseen(0, -1));
        check.noMember("foreseen", m -> x.foreseen(m, 0), 2);
    }

    // Promise 34
    private static void lastWrite() {
        LockstepRoom x = Check.loaded("member a 1;member b 1;member c 1;do a put 0 0;do a copy 1 2;seal;do a swap 3 4;do a put 0 0;seal;"
            + "do a sum 5 6;do a swap 7 7;do a mul 8 9;do a add 10 0;seal;do a put 15 1;seal;");
        check.due("ahead of all", x.lastWrite(0, 0), LockstepRoom.NOT_FOUND);
        x.run(0, 3);
        x.run(1, 3);
        int[] due = {1, 0, -1, 1, 1, 2, -1, 2, 2, -1, 2, -1, -1, -1, -1, -1};
        for (int cell = 0; cell < 16; cell++) {
            check.due("lastWrite(0, " + cell + ")", x.lastWrite(0, cell), due[cell]);
        }
        x.run(0, 1);
        check.due("lastWrite(0, 15)", x.lastWrite(0, 15), 3);
        x.run(2, 2);
        x.leave(2);
        check.due("of one who left", x.lastWrite(2, 0), 1);
        check.due("of one who left", x.lastWrite(2, 5), LockstepRoom.NOT_FOUND);
        check.due("join", x.join(1), 3);
        check.due("of one who joined", x.lastWrite(3, 1), 0);
        check.due("of one who joined", x.lastWrite(3, 8), 2);
        check.due("of one who joined", x.lastWrite(3, 15), LockstepRoom.NOT_FOUND);
        check.noIndex("lastWrite(0, 16)", () -> x.lastWrite(0, 16));
        check.noIndex("lastWrite(0, -1)", () -> x.lastWrite(0, -1));
        check.noMember("lastWrite", m -> x.lastWrite(m, 0), 4);
    }

    // Promise 37
    private static void running() {
        LockstepRoom x = Check.loaded("member a 1;member b 1;do a add 0 1;seal;do b add 0 1;seal;");
        check.due("run(2, 0)", x.run(2, 0), LockstepRoom.NOT_FOUND);
        check.due("run(-1, 1)", x.run(-1, 1), LockstepRoom.NOT_FOUND);
        check.due("run(0, 0)", x.run(0, 0), LockstepRoom.BAD_VALUE);
        check.due("run(0, 41)", x.run(0, 41), LockstepRoom.BAD_VALUE);
        check.due("nothing changed", x.undoCount(), 0);
        check.due("run(0, 1)", x.run(0, 1), 1);
        check.due("cell", x.cellOf(0, 0), 1);
        check.due("run(0, 40)", x.run(0, 40), 1);
        check.due("cell", x.cellOf(0, 0), 2);
        check.due("run(0, 1) behind all", x.run(0, 1), 0);
        check.due("a change all the same", x.undoCount(), 3);
        x.leave(1);
        check.due("run of one who left", x.run(1, 1), LockstepRoom.NOT_ALLOWED);
        check.due("run of one who left", x.run(1, 0), LockstepRoom.BAD_VALUE);
    }

    // Promise 38
    private static void ticking() {
        LockstepRoom x = Check.loaded("member a 4;member b 1;member c 3;set lag 2;" + "do b add 1 1;seal;".repeat(6));
        check.due("tick", x.tick(), 5);
        check.due("a", x.memberNumber(0, 1), 2);
        check.due("b", x.memberNumber(1, 1), 1);
        check.due("c", x.memberNumber(2, 1), 2);
        check.due("tick", x.tick(), 3);
        check.due("a", x.memberNumber(0, 1), 3);
        check.due("b", x.memberNumber(1, 1), 2);
        check.due("c", x.memberNumber(2, 1), 3);
        x.leave(0);
        check.due("tick without a", x.tick(), 2);
        check.due("a", x.memberNumber(0, 1), 3);
        check.due("c", x.memberNumber(2, 1), 4);
        check.due("cell of c", x.cellOf(2, 1), 4);
        x.setSetting(LockstepRoom.LAG, 40);
        check.due("tick to the end", x.tick(), 3);
        check.due("tick", x.tick(), 1);
        check.due("tick", x.tick(), 1);
        check.due("tick behind all", x.tick(), 0);
        check.due("changes", x.undoCount(), 9);

        // the lowest member comes first and does not pull the others on
        LockstepRoom y = Check.loaded("member a 1;member b 4;set lag 1;seal;seal;seal;");
        check.due("tick", y.tick(), 2);
        check.due("b", y.memberNumber(1, 1), 1);
        check.due("tick in a new room", new LockstepRoom().tick(), 0);
    }

    private static void faultsOfATurn() {
        LockstepRoom x = Check.loaded("start 9999;member a 1;member b 1;do a put 1 7;seal;fault a 0 1 9999;fault a 0 0 1;fault a 0 1 5;fault b 0 2 1;");
        x.run(0, 1);
        check.due("behind the commands", x.cellOf(0, 1), 11);
        check.due("modulo 10000", x.cellOf(0, 0), 0);
        check.due("those of others wait", x.cellOf(0, 2), 0);
        check.due("waiting", x.count(3), 1);
        check.due("the record is behind the faults", x.rootAt(0, 1), x.checksum(0, 1));
        x.tick();
        check.due("b", x.cellOf(1, 2), 1);
        check.due("b", x.cellOf(1, 1), 7);
        check.due("waiting", x.count(3), 0);
    }
}
