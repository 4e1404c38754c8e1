/** Promises 22 to 27 and 40 to 43: votes, healing, joining and leaving. */
public final class VotesTest {
    private static final Check check = new Check();

    public static void main(String[] args) {
        groups();
        ties();
        whyNot();
        donors();
        healing();
        recordOfHealed();
        healingAll();
        healingAllLooksAgain();
        joining();
        joiningAgain();
        joiningAfterAHealed();
        noJoining();
        leaving();
        check.finish();
    }

    /** Six members; those whose letter stands in wrong get a fault in turn 0, each letter another cell. */
    private static LockstepRoom six(String wrong, int quorum) {
        StringBuilder text = new StringBuilder("set quorum ").append(quorum).append(";");
        for (int m = 0; m < 6; m++) {
            text.append("member ").append((char) ('a' + m)).append(" 1;");
            if (wrong.charAt(m) != '.') {
                text.append("fault ").append((char) ('a' + m)).append(" 0 ").append(wrong.charAt(m) - '0').append(" 1;");
            }
        }
        LockstepRoom x = Check.loaded(text.append("seal;seal;seal;").toString());
        x.tick();
        return x;
    }

    // Promises 22 and 23
    private static void groups() {
        LockstepRoom x = six("1.22.2", 3);
        int[] due = {1, 2, 3, 3, 2, 3};
        for (int m = 0; m < 6; m++) {
            check.due("votes(" + m + ", 0)", x.votes(m, 0), 6);
            check.due("votes(" + m + ", 1)", x.votes(m, 1), due[m]);
            check.due("votes(" + m + ", 2)", x.votes(m, 2), LockstepRoom.NOT_FOUND);
            check.due("isWrong(" + m + ")", x.isWrong(m), m == 0 || m == 1 || m == 4);
        }
        check.due("votes(0, -1)", x.votes(0, -1), LockstepRoom.NOT_FOUND);
        check.due("winner(0)", x.winner(0), 0);
        check.due("winner(1)", x.winner(1), 2);
        check.due("winner(2)", x.winner(2), LockstepRoom.NOT_FOUND);
        check.due("winner(-1)", x.winner(-1), LockstepRoom.NOT_FOUND);
        check.due("winner(MAX)", x.winner(Integer.MAX_VALUE), LockstepRoom.NOT_FOUND);
        check.due("wrongMembers", x.wrongMembers(), 1 | 2 | 16);
        x.leave(2);
        check.due("votes of one who left", x.votes(2, 1), 2);
        check.due("votes without one who left", x.votes(3, 1), 2);
        check.due("quorum", x.winner(1), LockstepRoom.NOT_FOUND);
        check.due("no vote, nobody wrong", x.wrongMembers(), 0);
        check.due("no vote, nobody wrong", x.isWrong(0), false);
        x.setSetting(LockstepRoom.QUORUM, 2);
        check.due("quorum 2", x.winner(1), 1);
        check.due("wrongMembers", x.wrongMembers(), 1 | 8 | 32);
        check.due("one who left is not wrong", x.isWrong(2), false);
        check.noMember("votes", m -> x.votes(m, 0), 6);
        check.noMember("votes", m -> x.votes(m, -1), 6);
        check.noMember("isWrong", m -> x.isWrong(m) ? 1 : 0, 6);
        check.due("winner in a new room", new LockstepRoom().winner(0), LockstepRoom.NOT_FOUND);
        check.due("wrongMembers in a new room", new LockstepRoom().wrongMembers(), 0);
    }

    private static void ties() {
        LockstepRoom x = six("123.31", 2);
        // a and f, c and e, b and d alone
        check.due("winner of a tie", x.winner(1), 0);
        check.due("wrongMembers", x.wrongMembers(), 2 | 4 | 8 | 16);
        x.setSetting(LockstepRoom.QUORUM, 3);
        check.due("too few", x.winner(1), LockstepRoom.NOT_FOUND);
        x.setSetting(LockstepRoom.QUORUM, 1);
        x.leave(0);
        check.due("winner without a", x.winner(1), 2);
        x.leave(4);
        check.due("each one alone", x.winner(1), 1);
        check.due("at 0", x.winner(0), 1);
        x.run(1, 1);
        check.due("those who are at it and those behind it", x.winner(1), 1);
        check.due("wrong at another number", x.wrongMembers(), 4 | 8 | 32);
    }

    // Promise 27
    private static void whyNot() {
        LockstepRoom x = six("1..22.", 3);
        check.due("it can", x.whyNot(0), 0);
        check.due("not wrong", x.whyNot(1), 3);
        check.due("it can", x.whyNot(3), 0);
        x.run(1, 1);
        x.run(2, 1);
        x.run(5, 1);
        check.due("no donor", x.whyNot(0), 4);
        check.due("not wrong", x.whyNot(1), 3);
        check.due("heal without a donor", x.heal(0), LockstepRoom.NOT_ALLOWED);
        x.run(0, 2);
        check.due("no vote", x.whyNot(0), 2);
        x.leave(0);
        check.due("he left", x.whyNot(0), 1);
        x.leave(1);
        check.due("no vote at his turns", x.whyNot(3), 2);
        check.noMember("whyNot", x::whyNot, 6);
    }

    // Promise 26
    private static void donors() {
        LockstepRoom x = six("..1.2.", 2);
        check.due("the lowest one", x.donorFor(2), 0);
        check.due("another one than this", x.donorFor(0), 1);
        x.heal(2);
        check.due("the one that gave the fewest", x.donorFor(4), 1);
        check.due("also for one who is not wrong", x.donorFor(3), 1);
        x.leave(1);
        check.due("an active one", x.donorFor(4), 2);
        check.due("also for one who left", x.donorFor(1), 2);
        x.run(2, 1);
        check.due("one that has executed as many", x.donorFor(4), 3);
        check.due("none that has executed as many", x.donorFor(2), LockstepRoom.NOT_FOUND);
        x.setSetting(LockstepRoom.QUORUM, 6);
        check.due("no vote", x.donorFor(4), LockstepRoom.NOT_FOUND);
        check.noMember("donorFor", x::donorFor, 6);
    }

    // Promise 40
    private static void healing() {
        LockstepRoom x = Check.loaded("start 1 2 3;member a 1;member b 1;member c 1;fault b 0 0 5;fault b 0 9 5;fault b 0 15 5;fault b 1 3 1;seal;seal;");
        check.due("heal(3)", x.heal(3), LockstepRoom.NOT_FOUND);
        check.due("heal(-1)", x.heal(-1), LockstepRoom.NOT_FOUND);
        check.due("heal one who is not wrong", x.heal(1), LockstepRoom.NOT_ALLOWED);
        x.tick();
        check.due("changes", x.undoCount(), 1);
        check.due("heal", x.heal(1), 3);
        check.due("changes", x.undoCount(), 2);
        check.due("cells", Check.written(x, 1), "b: 1 2 3 0 0 0 0 0 0 0 0 0 0 0 0 0");
        check.due("given", x.memberNumber(0, 3), 3);
        check.due("given", x.memberNumber(2, 3), 0);
        check.due("got", x.memberNumber(1, 4), 3);
        check.due("healed", x.memberNumber(1, 5), 1);
        check.due("healed", x.memberNumber(0, 5), 0);
        check.due("faults wait on", x.count(3), 1);
        check.due("not wrong any more", x.heal(1), LockstepRoom.NOT_ALLOWED);
        x.tick();
        check.due("heal by the one that gave the fewest", x.heal(1), 1);
        check.due("given", x.memberNumber(2, 3), 1);
        check.due("given", x.memberNumber(0, 3), 3);
        check.due("got", x.memberNumber(1, 4), 4);
        check.due("healed", x.memberNumber(1, 5), 2);
        x.leave(1);
        check.due("one who left", x.heal(1), LockstepRoom.NOT_ALLOWED);
    }

    private static void recordOfHealed() {
        LockstepRoom x = Check.loaded("member a 1;member b 1;member c 1;fault b 0 0 5;seal;do a add 1 1;seal;seal;");
        x.tick();
        int before = x.rootAt(1, 1);
        x.tick();
        int wrong = x.rootAt(1, 2);
        x.heal(1);
        check.due("as that of the donor", x.rootAt(1, 2), x.rootAt(0, 2));
        check.due("another one than before", x.rootAt(1, 2) != wrong, true);
        check.due("as the cells", x.rootAt(1, 2), x.checksum(1, 1));
        check.due("what it was before stays", x.rootAt(1, 1), before);
        check.due("votes", x.votes(1, 2), 3);
        check.due("votes before", x.votes(1, 1), 1);
    }

    // Promise 41
    private static void healingAll() {
        LockstepRoom x = six(".1.2.3", 2);
        int changes = x.undoCount();
        check.due("healAll", x.healAll(), 3);
        check.due("one change", x.undoCount(), changes + 1);
        check.due("nobody is wrong", x.wrongMembers(), 0);
        // b by a, d by b (who gave none by now), f by c
        int[] gave = {1, 1, 1, 0, 0, 0};
        for (int m = 0; m < 6; m++) {
            check.due("given by " + m, x.memberNumber(m, 3), gave[m]);
            check.due("got by " + m, x.memberNumber(m, 4), m % 2);
        }
        check.due("none to heal", x.healAll(), LockstepRoom.NOT_FOUND);
        check.due("no change", x.undoCount(), changes + 1);
        x.undo();
        check.due("undone at once", x.wrongMembers(), 2 | 8 | 32);
        check.due("healAll in a new room", new LockstepRoom().healAll(), LockstepRoom.NOT_FOUND);
    }

    /** Those who were healed are donors for the next ones. */
    private static void healingAllLooksAgain() {
        LockstepRoom x = six("..1122", 2);
        // a and b win the tie; c is healed by a, d by b, e by c, f by d
        check.due("healAll", x.healAll(), 4);
        for (int m = 0; m < 6; m++) {
            check.due("given by " + m, x.memberNumber(m, 3), m < 4 ? 1 : 0);
        }
        LockstepRoom y = six("..1122", 2);
        y.leave(1);
        // c and d win; a is healed by c, e by a (cells 1 and 2), f by d
        check.due("healAll", y.healAll(), 3);
        int[] gave = {2, 0, 1, 2, 0, 0};
        for (int m = 0; m < 6; m++) {
            check.due("given by " + m, y.memberNumber(m, 3), gave[m]);
            check.due("healed " + m, y.memberNumber(m, 5), m == 0 || m > 3 ? 1 : 0);
        }
    }

    // Promise 42
    private static void joining() {
        LockstepRoom x = Check.loaded("start 4 0 0 9;member a 1;member b 1;member c 1;do a add 0 1;seal;do a add 1 1;seal;seal;");
        x.run(0, 1);
        x.run(1, 1);
        x.run(2, 2);
        check.due("join(0)", x.join(0), LockstepRoom.BAD_VALUE);
        check.due("join(5)", x.join(5), LockstepRoom.BAD_VALUE);
        check.due("changes", x.undoCount(), 3);
        check.due("join(4)", x.join(4), 3);
        check.due("changes", x.undoCount(), 4);
        check.due("as at the least number", Check.written(x, 3), "*: 5 0 0 9 0 0 0 0 0 0 0 0 0 0 0 0");
        int[] due = {4, 1, 1, 0, 16, 0};
        for (int what = 0; what < 6; what++) {
            check.due("memberNumber(3, " + what + ")", x.memberNumber(3, what), due[what]);
        }
        check.due("given by a", x.memberNumber(0, 3), 16);
        check.due("record", x.rootAt(3, 1), x.rootAt(0, 1));
        check.due("record", x.rootAt(3, 0), LockstepRoom.NOT_FOUND);
        check.due("votes with him", x.votes(0, 1), 4);
        check.due("votes without him", x.votes(0, 0), 3);
        check.due("a fault of a turn ahead of his first", x.fault(3, 0, 0, 1), LockstepRoom.NOT_ALLOWED);
        check.due("a fault of his first turn", x.fault(3, 1, 0, 1), 1);
        check.due("join(1)", x.join(1), 4);
        check.due("given by b", x.memberNumber(1, 3), 16);
        check.due("join(2)", x.join(2), 5);
        check.due("given by the one that joined", x.memberNumber(3, 3), 16);
        check.due("a seventh", x.join(1), LockstepRoom.FULL);
        x.leave(5);
        check.due("a seventh, one having left", x.join(1), LockstepRoom.FULL);
        check.due("a seventh with a wrong pace", x.join(0), LockstepRoom.BAD_VALUE);
        check.due("he runs on", x.run(3, 9), 2);
        check.due("cells", Check.written(x, 3), "*: 6 1 0 9 0 0 0 0 0 0 0 0 0 0 0 0");
    }

    /** What a member had who joined and was undone is not that of the next one. */
    private static void joiningAgain() {
        LockstepRoom x = Check.loaded("member a 1;member b 1;seal;");
        x.join(3);
        x.leave(0);
        x.leave(1);
        x.setSetting(LockstepRoom.QUORUM, 1);
        x.join(1);
        x.fault(2, 0, 5, 5);
        x.setSetting(LockstepRoom.QUORUM, 2);
        x.undo();
        check.due("given by the one who joined", x.memberNumber(2, 3), 16);
        for (int left = x.undoCount(); left > 0; left--) {
            x.undo();
        }
        check.due("members", x.count(0), 2);
        x.fault(0, 0, 1, 1);
        x.tick();
        check.due("join", x.join(2), LockstepRoom.NOT_ALLOWED);
        x.undo();
        check.due("join", x.join(2), 2);
        int[] due = {2, 0, 1, 0, 16, 0};
        for (int what = 0; what < 6; what++) {
            check.due("memberNumber(2, " + what + ")", x.memberNumber(2, what), due[what]);
        }
    }

    /** One who joined is healed; then that is undone and another one joins. */
    private static void joiningAfterAHealed() {
        LockstepRoom x = Check.loaded("member a 1;member b 1;seal;");
        x.join(1);
        x.fault(2, 0, 5, 5);
        x.tick();
        check.due("heal", x.heal(2), 1);
        for (int n = 0; n < 4; n++) {
            x.undo();
        }
        x.join(4);
        check.due("healed", x.memberNumber(2, 5), 0);
        check.due("got", x.memberNumber(2, 4), 16);
    }

    private static void noJoining() {
        check.due("join in a new room", new LockstepRoom().join(1), LockstepRoom.NOT_ALLOWED);
        LockstepRoom x = Check.loaded("member a 1;member b 1;member c 1;fault c 0 0 1;seal;seal;");
        x.run(0, 2);
        x.run(1, 2);
        x.run(2, 1);
        check.due("the group that wins has gone on", x.join(1), LockstepRoom.NOT_ALLOWED);
        x.run(2, 1);
        x.setSetting(LockstepRoom.QUORUM, 3);
        check.due("no vote", x.join(1), LockstepRoom.NOT_ALLOWED);
        x.setSetting(LockstepRoom.QUORUM, 2);
        check.due("join", x.join(1), 3);
        check.due("cells of the group that wins", x.cellOf(3, 0), 0);
        x.undo();
        x.leave(0);
        x.leave(1);
        x.leave(2);
        check.due("nobody is active", x.join(1), LockstepRoom.NOT_ALLOWED);
    }

    // Promise 43
    private static void leaving() {
        LockstepRoom x = Check.loaded("start 3;member a 1;member b 1;fault a 0 0 1;fault b 0 1 1;fault a 39 2 1;fault b 2 3 1;do a put 5 6;do b put 5 7;seal;");
        x.give(0, LockstepRoom.PUT, 7, 7);
        check.due("leave(2)", x.leave(2), LockstepRoom.NOT_FOUND);
        check.due("leave(-1)", x.leave(-1), LockstepRoom.NOT_FOUND);
        check.due("leave", x.leave(0), 1);
        check.due("again", x.leave(0), LockstepRoom.NOT_ALLOWED);
        check.due("changes", x.undoCount(), 2);
        check.due("waiting", x.count(3), 2);
        check.due("the others keep their order", x.faultNumber(0, 2), 1);
        check.due("the others keep their order", x.faultNumber(1, 2), 3);
        check.due("his commands stay", x.count(2), 1);
        check.due("his name stays", x.memberNamed(1 << 25), 0);
        check.due("his cells stay", x.cellOf(0, 0), 3);
        check.due("b leaves", x.leave(1), 0);
        check.due("waiting", x.count(3), 0);
        x.undo();
        x.undo();
        check.due("waiting again", x.count(3), 4);
        for (int f = 0; f < 4; f++) {
            check.due("cell of fault " + f, x.faultNumber(f, 2), f);
        }
        check.due("active again", x.memberNumber(0, 2), 1);
    }
}
