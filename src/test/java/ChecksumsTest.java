/** Promises 14 to 21: checksums, records, halving to turns and cells. */
public final class ChecksumsTest {
    private static final Check check = new Check();

    public static void main(String[] args) {
        trees();
        records();
        firstDivergence();
        healedDivergence();
        sharedRange();
        wrongCells();
        allCells();
        check.finish();
    }

    // Promise 14
    private static void trees() {
        LockstepRoom x = Check.loaded("start 9999 0 1;member a 1;");
        check.due("leaf 16", x.checksum(0, 16), 404989498);
        check.due("leaf 17", x.checksum(0, 17), 978);
        check.due("leaf 18", x.checksum(0, 18), 42458);
        check.due("leaf 31", x.checksum(0, 31), 14656);
        // (69069 * 404989498 + 30027 * 978 + 8) modulo 2147483647, and so on up
        check.due("node 8", x.checksum(0, 8), (69069L * 404989498L + 30027L * 978L + 8L) % 2147483647L);
        check.due("node 15", x.checksum(0, 15), (69069L * 13679L + 30041L * 14656L + 15L) % 2147483647L);
        for (int k = 1; k < 16; k++) {
            check.due("node " + k, x.checksum(0, k), (69069L * x.checksum(0, 2 * k) + (30011L + 2 * k) * x.checksum(0, 2 * k + 1) + k) % 2147483647L);
        }
        check.due("node 0", x.checksum(0, 0), LockstepRoom.BAD_VALUE);
        check.due("node 32", x.checksum(0, 32), LockstepRoom.BAD_VALUE);
        check.due("node -1", x.checksum(0, -1), LockstepRoom.BAD_VALUE);
        check.noMember("checksum", m -> x.checksum(m, 1), 1);
        check.noMember("checksum", m -> x.checksum(m, 99), 1);
    }

    // Promise 15
    private static void records() {
        LockstepRoom x = Check.loaded("member a 1;member b 1;do a add 0 1;seal;do a add 0 1;seal;fault b 1 3 4;");
        int[] roots = new int[3];
        for (int t = 0; t < 3; t++) {
            roots[t] = x.checksum(0, 1);
            check.due("not yet", x.rootAt(0, t + 1), LockstepRoom.NOT_FOUND);
            x.run(0, 1);
        }
        for (int t = 0; t < 3; t++) {
            check.due("rootAt(0, " + t + ")", x.rootAt(0, t), roots[t]);
        }
        check.due("rootAt(0, 3)", x.rootAt(0, 3), LockstepRoom.NOT_FOUND);
        check.due("rootAt(0, -1)", x.rootAt(0, -1), LockstepRoom.NOT_FOUND);
        check.due("rootAt(0, MAX)", x.rootAt(0, Integer.MAX_VALUE), LockstepRoom.NOT_FOUND);
        x.run(1, 2);
        check.due("rootAt(1, 1)", x.rootAt(1, 1), roots[1]);
        check.due("rootAt(1, 2)", x.rootAt(1, 2) != roots[2], true);
        x.setSetting(LockstepRoom.QUORUM, 1);
        check.due("join", x.join(1), 2);
        check.due("ahead of joining", x.rootAt(2, 1), LockstepRoom.NOT_FOUND);
        check.due("at joining", x.rootAt(2, 2), roots[2]);
        check.noMember("rootAt", m -> x.rootAt(m, 0), 3);
    }

    // Promises 16, 17 and 18
    private static void firstDivergence() {
        for (int wrong = 0; wrong < 9; wrong++) {
            LockstepRoom x = Check.loaded("member a 1;member b 1;fault b " + wrong + " 5 1;" + "seal;".repeat(9));
            x.run(0, 9);
            check.due("none yet", x.halvedTurn(0, 1), LockstepRoom.NOT_FOUND);
            check.due("none yet", x.isHalvingRight(0, 1), true);
            x.run(1, 9);
            check.due("firstWrongTurn", x.firstWrongTurn(0, 1), wrong + 1);
            check.due("firstWrongTurn", x.firstWrongTurn(1, 0), wrong + 1);
            check.due("halvedTurn", x.halvedTurn(0, 1), wrong + 1);
            check.due("isHalvingRight", x.isHalvingRight(1, 0), true);
            check.due("of himself", x.firstWrongTurn(1, 1), LockstepRoom.NOT_FOUND);
            check.due("of himself", x.halvedTurn(1, 1), LockstepRoom.NOT_FOUND);
            check.noMember("firstWrongTurn", m -> x.firstWrongTurn(m, 0), 2);
            check.noMember("firstWrongTurn", m -> x.firstWrongTurn(0, m), 2);
            check.noMember("halvedTurn", m -> x.halvedTurn(m, 0), 2);
            check.noMember("halvedTurn", m -> x.halvedTurn(0, m), 2);
            check.noMember("isHalvingRight", m -> x.isHalvingRight(m, 0) ? 1 : 0, 2);
            check.noMember("isHalvingRight", m -> x.isHalvingRight(0, m) ? 1 : 0, 2);
        }
    }

    /** Records that differ at 1, are the same from 2 on (a put) and differ from 6 on: halving of 0 to 7 looks at 3, 5 and 6. */
    private static void healedDivergence() {
        LockstepRoom x = Check.loaded("member a 1;member b 1;fault b 0 5 1;seal;do a put 5 0;seal;seal;seal;seal;fault b 5 6 1;seal;seal;");
        x.tick();
        check.due("firstWrongTurn", x.firstWrongTurn(0, 1), 1);
        check.due("halvedTurn", x.halvedTurn(0, 1), 1);
        x.run(0, 4);
        x.run(1, 4);
        check.due("the same at the greatest one", x.halvedTurn(0, 1), LockstepRoom.NOT_FOUND);
        check.due("firstWrongTurn", x.firstWrongTurn(0, 1), 1);
        check.due("isHalvingRight", x.isHalvingRight(0, 1), false);
        x.run(0, 2);
        x.run(1, 2);
        check.due("firstWrongTurn", x.firstWrongTurn(0, 1), 1);
        check.due("halvedTurn", x.halvedTurn(0, 1), 6);
        check.due("isHalvingRight", x.isHalvingRight(0, 1), false);
    }

    private static void sharedRange() {
        LockstepRoom x = Check.loaded("member a 1;member b 1;member c 1;fault b 0 0 1;fault b 4 1 1;fault c 0 0 2;set quorum 1;" + "seal;".repeat(6));
        x.run(2, 2);
        x.leave(2);
        x.run(0, 3);
        x.run(1, 3);
        check.due("join", x.join(1), 3);
        check.due("none that both have", x.firstWrongTurn(2, 3), LockstepRoom.NOT_FOUND);
        check.due("none that both have", x.halvedTurn(2, 3), LockstepRoom.NOT_FOUND);
        check.due("none that both have", x.isHalvingRight(3, 2), true);
        check.due("from where the later one began", x.firstWrongTurn(1, 3), 3);
        check.due("from where the later one began", x.halvedTurn(3, 1), 3);
        check.due("as the donor", x.firstWrongTurn(0, 3), LockstepRoom.NOT_FOUND);
        check.due("the range begins at 0", x.firstWrongTurn(0, 1), 1);
    }

    // Promises 19, 20 and 21
    private static void wrongCells() {
        LockstepRoom x = Check.loaded("member a 1;member b 1;fault b 0 6 1;fault b 0 7 1;fault b 0 15 1;seal;seal;");
        check.due("the same", x.firstWrongCell(0, 1), LockstepRoom.NOT_FOUND);
        check.due("the same", x.wrongCells(0, 1), 0);
        check.due("the same", x.comparisons(0, 1), 1);
        x.run(1, 1);
        check.due("other turns", x.firstWrongCell(0, 1), LockstepRoom.NOT_ALLOWED);
        check.due("other turns", x.wrongCells(0, 1), 1 << 6 | 1 << 7 | 1 << 15);
        // 1; 2, 3; 4, 5, 6, 7; 10, 11; 14, 15; 22, 23; 30, 31
        check.due("other turns", x.comparisons(0, 1), 15);
        x.run(0, 1);
        check.due("firstWrongCell", x.firstWrongCell(0, 1), 6);
        check.due("firstWrongCell", x.firstWrongCell(1, 0), 6);
        check.due("wrongCells", x.wrongCells(1, 0), 1 << 6 | 1 << 7 | 1 << 15);
        check.due("of himself", x.firstWrongCell(1, 1), LockstepRoom.NOT_FOUND);
        check.due("of himself", x.wrongCells(1, 1), 0);
        check.due("of himself", x.comparisons(1, 1), 1);
        check.noMember("firstWrongCell", m -> x.firstWrongCell(m, 0), 2);
        check.noMember("firstWrongCell", m -> x.firstWrongCell(0, m), 2);
        check.noMember("wrongCells", m -> x.wrongCells(m, 0), 2);
        check.noMember("wrongCells", m -> x.wrongCells(0, m), 2);
        check.noMember("comparisons", m -> x.comparisons(m, 0), 2);
        check.noMember("comparisons", m -> x.comparisons(0, m), 2);
    }

    private static void allCells() {
        StringBuilder text = new StringBuilder("member a 1;member b 1;");
        for (int turn = 0; turn < 2; turn++) {
            for (int cell = 0; cell < 8; cell++) {
                text.append("do a put ").append(turn * 8 + cell).append(" 5;");
            }
            text.append("seal;");
        }
        LockstepRoom x = Check.loaded(text.toString());
        x.run(0, 2);
        check.due("all cells", x.wrongCells(0, 1), 0xFFFF);
        check.due("all nodes", x.comparisons(0, 1), 31);
        x.leave(0);
        check.due("also of one who left", x.wrongCells(0, 1), 0xFFFF);
        check.due("of himself, behind that", x.wrongCells(0, 0), 0);
        x.run(1, 2);
        LockstepRoom y = Check.loaded("member a 1;member b 1;fault b 0 0 1;seal;");
        y.tick();
        check.due("cell 0", y.firstWrongCell(0, 1), 0);
        check.due("of himself, behind that", y.firstWrongCell(1, 1), LockstepRoom.NOT_FOUND);
        check.due("cell 0, behind that", y.wrongCells(0, 1), 1);
        check.due("of himself, behind that", y.comparisons(1, 1), 1);
        check.due("cell 0, behind that", y.comparisons(0, 1), 9);
    }
}
