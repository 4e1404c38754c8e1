/** Promises 6 and 45: what counts as a change, and that undo brings back all that can be asked for. */
public final class UndoTest {
    private static final Check check = new Check();
    private static final String TEXT = "start 7 1;member a 2;member b 1;member c 1;fault b 0 0 5;fault a 3 1 1;do b add 0 1;do a mul 0 1;seal;do c swap 0 9;seal;"
        + "do b put 2 2;do a put 2 3;";

    public static void main(String[] args) {
        everyChange();
        tenChanges();
        noChanges();
        buffersStay();
        tenFaults();
        lastTurn();
        overwrittenCommands();
        check.finish();
    }

    /** All answers of the queries, one after the other. */
    private static String all(LockstepRoom x) {
        StringBuilder b = new StringBuilder();
        int members = x.count(0);
        int turns = x.count(1);
        b.append(members).append(' ').append(turns).append(' ').append(x.count(2)).append(' ').append(x.getSetting(0)).append(x.getSetting(1));
        for (int f = 0; f < x.count(3); f++) {
            for (int what = 0; what < 4; what++) {
                b.append(" f").append(x.faultNumber(f, what));
            }
        }
        for (int t = 0; t < turns; t++) {
            for (int k = 0; k < x.commandCount(t); k++) {
                for (int what = 0; what < 4; what++) {
                    b.append(" c").append(x.command(t, k, what));
                }
            }
        }
        for (int m = 0; m < members; m++) {
            b.append('\n').append(Check.written(x, m));
            for (int what = 0; what < 6; what++) {
                b.append(" n").append(x.memberNumber(m, what));
            }
            for (int t = 0; t <= 40; t++) {
                b.append(" r").append(x.rootAt(m, t));
            }
            b.append(x.mayRun(m)).append(x.whyNot(m)).append(x.donorFor(m)).append(x.foreseen(m, 0)).append(x.lastWrite(m, 0));
        }
        return b.append(x.wrongMembers()).append(x.trueMembers()).append(x.winner(1)).append(x.reached(true)).append(x.meanTurns()).toString();
    }

    private static void everyChange() {
        LockstepRoom x = Check.loaded(TEXT);
        String[] names = {"give", "seal", "run", "tick", "fault", "run", "healAll", "join", "leave", "setSetting"};
        int[] dues = {3, 3, 1, 4, 2, 1, 1, 3, 3, 40};
        String[] states = new String[dues.length + 1];
        states[0] = all(x);
        for (int k = 0; k < dues.length; k++) {
            check.due(names[k], change(x, k), dues[k]);
            check.due("undoCount", x.undoCount(), k + 1);
            states[k + 1] = all(x);
            check.due(names[k] + " makes something different", states[k + 1].equals(states[k]), false);
        }
        for (int k = dues.length - 1; k >= 0; k--) {
            check.due("undo", x.undo(), k);
            check.due("state ahead of " + names[k], all(x), states[k]);
        }
        check.due("undo", x.undo(), LockstepRoom.NOT_FOUND);
        check.due("state", all(x), states[0]);
        x.run(0, 1);
        x.run(1, 1);
        x.run(2, 1);
        String before = all(x);
        check.due("heal", x.heal(1), 1);
        check.due("undo of heal", x.undo(), 3);
        check.due("state ahead of heal", all(x), before);
    }

    private static int change(LockstepRoom x, int k) {
        switch (k) {
            case 0:
                return x.give(2, LockstepRoom.SUM, 4, 0);
            case 1:
                return x.seal();
            case 2:
                return x.run(1, 1);
            case 3:
                return x.tick();
            case 4:
                return x.fault(0, 39, 2, 2);
            case 5:
                return x.run(2, 1);
            case 6:
                return x.healAll();
            case 7:
                return x.join(4);
            case 8:
                return x.leave(1);
            default:
                return x.setSetting(LockstepRoom.LAG, 9);
        }
    }

    private static void tenChanges() {
        LockstepRoom x = Check.loaded("member a 1;");
        for (int n = 1; n <= 25; n++) {
            check.due("seal", x.seal(), n);
            check.due("undoCount", x.undoCount(), Math.min(n, 10));
        }
        for (int n = 9; n >= 3; n--) {
            check.due("undo", x.undo(), n);
        }
        check.due("sealed", x.count(1), 18);
        x.tick();
        check.due("undoCount", x.undoCount(), 4);
        for (int n = 3; n >= 0; n--) {
            check.due("undo", x.undo(), n);
        }
        check.due("sealed", x.count(1), 15);
        check.due("undo", x.undo(), LockstepRoom.NOT_FOUND);
        check.due("sealed", x.count(1), 15);
    }

    private static void noChanges() {
        LockstepRoom x = Check.loaded(TEXT);
        String before = all(x);
        x.give(0, 9, 9, 9);
        x.run(0, 0);
        x.fault(0, 0, 0, 0);
        x.heal(0);
        x.heal(9);
        x.healAll();
        x.join(9);
        x.leave(9);
        x.setSetting(9, 9);
        x.load(1);
        x.write(0);
        check.due("none", x.undoCount(), 0);
        check.due("state", all(x), before);
        x.setSetting(LockstepRoom.QUORUM, 2);
        x.tick();
        x.run(0, 1);
        x.run(0, 1);
        check.due("also those that make nothing different", x.undoCount(), 4);
    }

    private static void buffersStay() {
        LockstepRoom x = Check.loaded("start 5;member a 1;do a put 0 77;seal;");
        x.run(0, 1);
        x.feed(0x7365616c, 0x3b202020, 0x20202020, 0x20202020, 0x20202020);
        x.write(0);
        x.undo();
        check.due("the output stays", x.outputAt(3), '7');
        check.due("the input stays", x.feed(0x20202020, 0x20202020, 0x20202020, 0x20202020, 0x20202020), 40);
        check.due("load", x.load(40), 1);
    }

    private static void tenFaults() {
        LockstepRoom x = Check.loaded("member a 1;member b 1;");
        for (int f = 0; f < 10; f++) {
            x.fault(f % 2, 39 - f, f, 100 + f);
        }
        String before = all(x);
        x.leave(0);
        check.due("faults of b", x.count(3), 5);
        x.undo();
        check.due("all faults", all(x), before);
        for (int f = 0; f < 10; f++) {
            check.due("amount of fault " + f, x.faultNumber(f, 3), 100 + f);
        }
    }

    private static void lastTurn() {
        LockstepRoom x = Check.loaded("member a 1;member b 1;set quorum 1;fault b 39 15 1;" + "seal;".repeat(40));
        x.run(0, 40);
        x.run(1, 40);
        String before = all(x);
        check.due("heal", x.heal(1), 1);
        check.due("healed", all(x).equals(before), false);
        x.undo();
        check.due("state ahead of heal", all(x), before);
    }

    /** Commands of an undone turn are written over by others. */
    private static void overwrittenCommands() {
        LockstepRoom x = Check.loaded("member a 1;member b 1;");
        x.give(1, LockstepRoom.PUT, 0, 1);
        x.give(0, LockstepRoom.PUT, 0, 2);
        x.seal();
        x.give(1, LockstepRoom.PUT, 0, 3);
        x.undo();
        x.undo();
        x.undo();
        x.give(0, LockstepRoom.PUT, 0, 4);
        x.give(0, LockstepRoom.PUT, 0, 5);
        x.undo();
        x.seal();
        x.seal();
        check.due("commands", x.commandCount(0), 2);
        check.due("first", x.command(0, 0, 3), 4);
        check.due("second", x.command(0, 1, 3), 1);
        check.due("none", x.commandCount(1), 0);
        x.run(1, 2);
        check.due("cell", x.cellOf(1, 0), 1);
    }
}
