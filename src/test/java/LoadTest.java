/** Promises 1 to 4 and the text format. */
public final class LoadTest {
    private static final Check check = new Check();

    public static void main(String[] args) {
        newObject();
        feeding();
        lengths();
        emptyTexts();
        whatATextGives();
        failedLoads();
        loadsInARow();
        loadsAfterHealing();
        cutTexts();
        syntax();
        ranges();
        names();
        duplicates();
        counts();
        firstOfSeveral();
        check.finish();
    }

    private static void error(String text, int code, int position) {
        LockstepRoom x = new LockstepRoom();
        check.due("load of <" + text + ">", Check.load(x, text), code);
        check.due("errorPosition of <" + text + ">", x.errorPosition(), position);
    }

    private static void good(String text, int statements) {
        error(text, statements, LockstepRoom.NOT_FOUND);
    }

    // Promise 1
    private static void newObject() {
        LockstepRoom x = new LockstepRoom();
        for (int what = 0; what < 4; what++) {
            check.due("count(" + what + ") of a new room", x.count(what), 0);
        }
        check.due("lag of a new room", x.getSetting(LockstepRoom.LAG), 40);
        check.due("quorum of a new room", x.getSetting(LockstepRoom.QUORUM), 2);
        check.due("undoCount of a new room", x.undoCount(), 0);
        check.due("undo in a new room", x.undo(), LockstepRoom.NOT_FOUND);
        check.due("errorPosition of a new room", x.errorPosition(), LockstepRoom.NOT_FOUND);
        check.due("outputAt(0) of a new room", x.outputAt(0), LockstepRoom.NOT_FOUND);
        check.due("load(1) of a new room", x.load(1), LockstepRoom.BAD_VALUE);
        for (int cell = 0; cell < 16; cell++) {
            check.due("truth in a new room", x.truth(0, cell), 0);
        }
        check.due("first feed", x.feed(0, 0, 0, 0, 0), 20);
    }

    // Promise 2
    private static void feeding() {
        LockstepRoom x = new LockstepRoom();
        for (int n = 1; n <= 45; n++) {
            check.due("feed", x.feed(0x20202020, 0x20202020, 0x20202020, 0x20202020, 0x20202020), 20 * n);
        }
        check.due("feed beyond 900", x.feed(0x3b3b3b3b, 0, 0, 0, 0), LockstepRoom.FULL);
        check.due("feed beyond 900", x.feed(0x3b3b3b3b, 0, 0, 0, 0), LockstepRoom.FULL);
        check.due("load of 900 blanks", x.load(900), 0);
        // the bytes lie most significant first, in the order of the parameters
        check.due("feed", x.feed(0x6d656d62, 0x65722061, 0x20343b73, 0x65616c3b, 0x7365616c), 20);
        check.due("load", x.load(16), 2);
        check.due("name", Check.written(x, 0), "a: 0 0 0 0 0 0 0 0 0 0 0 0 0 0 0 0");
        check.due("pace", x.memberNumber(0, 0), 4);
        // a byte above 127 is a character that is never allowed
        x.feed(0x73656180 | 0xec, 0x3b202020, 0x20202020, 0x20202020, 0x20202020);
        check.due("load of a byte above 127", x.load(20), LockstepRoom.SYNTAX_ERROR);
    }

    // Promise 3: length
    private static void lengths() {
        LockstepRoom x = new LockstepRoom();
        Check.feed(x, "seal;seal;seal;seal;");
        check.due("load(-1)", x.load(-1), LockstepRoom.BAD_VALUE);
        check.due("load(21)", x.load(21), LockstepRoom.BAD_VALUE);
        check.due("load(MIN)", x.load(Integer.MIN_VALUE), LockstepRoom.BAD_VALUE);
        check.due("load(MAX)", x.load(Integer.MAX_VALUE), LockstepRoom.BAD_VALUE);
        check.due("the buffer stays", x.feed(0, 0, 0, 0, 0), 40);
        check.due("load(10)", x.load(10), 2);
        check.due("seals", x.count(1), 2);
        check.due("the buffer is emptied", x.load(1), LockstepRoom.BAD_VALUE);
        check.due("the buffer is emptied", x.feed(0, 0, 0, 0, 0), 20);
        check.due("load(0)", x.load(0), 0);
        check.due("load(0) replaces the room", x.count(1), 0);
        check.due("load(0) empties the buffer", x.feed(0, 0, 0, 0, 0), 20);
        String longest = "seal;".repeat(40) + " ".repeat(700);
        x.load(0);
        check.due("load of 900 bytes", Check.load(x, longest), 40);
    }

    private static void emptyTexts() {
        good("", 0);
        good("  \n ", 0);
        good("\nseal ;\n\n", 1);
        good("seal;", 1);
    }

    private static void whatATextGives() {
        LockstepRoom x = Check.loaded("set quorum 3;member bo 2;do bo add 15 9999;seal;start 1 002;member seal 4;do seal swap 0 15;\nset lag 7;"
            + "do bo mul3 4;fault seal 39 15 9999;fault bo 0 0 1;");
        check.due("members", x.count(0), 2);
        check.due("sealed", x.count(1), 1);
        check.due("open", x.count(2), 2);
        check.due("faults", x.count(3), 2);
        check.due("quorum", x.getSetting(LockstepRoom.QUORUM), 3);
        check.due("lag", x.getSetting(LockstepRoom.LAG), 7);
        check.due("start behind the members", Check.written(x, 0), "bo: 1 2 0 0 0 0 0 0 0 0 0 0 0 0 0 0");
        check.due("a keyword as a name", Check.written(x, 1), "seal: 1 2 0 0 0 0 0 0 0 0 0 0 0 0 0 0");
        check.due("the start is the truth", x.truth(0, 1), 2);
        check.due("a fault", x.faultNumber(0, 0), 1);
        check.due("a fault", x.faultNumber(1, 0), 0);
        check.due("executed", x.memberNumber(1, 1), 0);
        check.due("seal", x.seal(), 2);
        check.due("a command", x.command(1, 0, 1), LockstepRoom.MUL);
        check.due("a command", x.command(1, 1, 1), LockstepRoom.SWAP);
        check.due("write stays", x.write(0), 35);
        check.due("nothing is kept of the room before", Check.load(x, "member a 1;"), 1);
        check.due("write stays after load", x.outputAt(0), 'b');
        check.due("initial lag", x.getSetting(LockstepRoom.LAG), 40);
        check.due("initial quorum", x.getSetting(LockstepRoom.QUORUM), 2);
        check.due("initial cells", x.cellOf(0, 1), 0);
        check.due("initial truth", x.truth(0, 1), 0);
        check.due("no seals", x.count(1), 0);
        check.due("no commands", x.count(2), 0);
        check.due("no faults", x.count(3), 0);
        check.due("no undo", x.undo(), LockstepRoom.NOT_FOUND);
        check.due("record", x.rootAt(0, 0), x.checksum(0, 1));
        check.due("no record", x.rootAt(0, 1), LockstepRoom.NOT_FOUND);
    }

    private static void failedLoads() {
        LockstepRoom x = Check.loaded("start 5;member a 1;do a put 0 9;");
        x.seal();
        x.run(0, 1);
        check.due("failed load", Check.load(x, "start 8;member b 2;seal;do b put 0 8;seal x"), LockstepRoom.SYNTAX_ERROR);
        check.due("errorPosition", x.errorPosition(), 42);
        check.due("the buffer is emptied", x.load(1), LockstepRoom.BAD_VALUE);
        check.due("errorPosition stays after BAD_VALUE", x.errorPosition(), 42);
        check.due("the member stays", Check.written(x, 0), "a: 9 0 0 0 0 0 0 0 0 0 0 0 0 0 0 0");
        check.due("the truth stays", x.truth(0, 0), 5);
        check.due("the truth stays", x.truth(1, 0), 9);
        check.due("undo stays", x.undo(), 1);
        check.due("undo stays", x.cellOf(0, 0), 5);
        check.due("errorPosition stays after undo", x.errorPosition(), 42);
        check.due("load", Check.load(x, "seal;"), 1);
        check.due("errorPosition of a good load", x.errorPosition(), LockstepRoom.NOT_FOUND);
        check.due("nothing to undo", x.undoCount(), 0);
    }

    /** A room that was loaded often has nothing of the texts before, also not of those with errors. */
    private static void loadsInARow() {
        LockstepRoom x = new LockstepRoom();
        String much = "start 1 2 3;member a 1;member zz 2;do zz put 1 1;seal;do a put 1 1;fault a 1 1 1;set lag 3;set quorum 1;";
        for (int n = 0; n < 3; n++) {
            check.due("load of much", Check.load(x, much), 9);
            check.due("members", x.count(0), 2);
        }
        for (int n = 0; n < 3; n++) {
            check.due("load of much and an error", Check.load(x, much + "x"), LockstepRoom.SYNTAX_ERROR);
            check.due("a name of the text before", Check.load(x, "member a 1;do zz put 1 1;"), LockstepRoom.NAME_ERROR);
            check.due("load of little", Check.load(x, "member b 1;"), 1);
            check.due("written", Check.written(x, 0), "b: 0 0 0 0 0 0 0 0 0 0 0 0 0 0 0 0");
            check.due("numbers", x.count(0) * 1000 + x.count(1) * 100 + x.count(2) * 10 + x.count(3), 1000);
            check.due("settings", x.getSetting(0) * 10 + x.getSetting(1), 402);
            check.due("truth", x.truth(0, 1), 0);
        }
    }

    /** Members who gave, got and were healed are followed by new ones who did not. */
    private static void loadsAfterHealing() {
        LockstepRoom x = new LockstepRoom();
        String text = "member a 1;member b 1;member c 1;fault b 0 0 1;seal;";
        for (int n = 0; n < 4; n++) {
            Check.load(x, text);
            for (int m = 0; m < 3; m++) {
                for (int what = 3; what < 6; what++) {
                    check.due("memberNumber(" + m + ", " + what + ")", x.memberNumber(m, what), 0);
                }
                check.due("active", x.memberNumber(m, 2), 1);
                check.due("executed", x.memberNumber(m, 1), 0);
            }
            x.tick();
            check.due("heal", x.heal(1), 1);
            x.leave(0);
        }
    }

    /** What stands in the buffer behind the length is not read. */
    private static void cutTexts() {
        String[] texts = {"seal;sea|l;", "seal;seal|;", "start 9|9999;", "seal;|x", "member a 1;do a|b put 1 1;", "seal |"};
        int[] codes = {LockstepRoom.SYNTAX_ERROR, LockstepRoom.SYNTAX_ERROR, LockstepRoom.SYNTAX_ERROR, 1, LockstepRoom.SYNTAX_ERROR,
            LockstepRoom.SYNTAX_ERROR};
        int[] positions = {5, 9, 7, LockstepRoom.NOT_FOUND, 15, 5};
        for (int k = 0; k < texts.length; k++) {
            LockstepRoom x = new LockstepRoom();
            Check.feed(x, texts[k].replace("|", ""));
            check.due("load of <" + texts[k] + ">", x.load(texts[k].indexOf('|')), codes[k]);
            check.due("errorPosition of <" + texts[k] + ">", x.errorPosition(), positions[k]);
        }
    }

    private static void syntax() {
        int e = LockstepRoom.SYNTAX_ERROR;
        error("seal", e, 4);
        error("seal  \n", e, 7);
        error("seal;;", e, 5);
        error(";", e, 0);
        error("7;", e, 0);
        error("sea;", e, 0);
        error("seals;", e, 0);
        error("Seal;", e, 0);
        error("zeal;", e, 0);
        error("seam;", e, 0);
        error("seal\t;", e, 4);
        error("seal\r;", e, 4);
        error("seal;\u0000", e, 5);
        error("seal;\u00ff", e, 5);
        error("start;", e, 5);
        error("start a;", e, 6);
        error("start 1 a;", e, 8);
        error("start 1,2;", e, 7);
        error("start -1;", e, 6);
        error("member;", e, 6);
        error("member 1 1;", e, 7);
        error("member abcdefg 1;", e, 7);
        error("member a;", e, 8);
        error("member a b;", e, 9);
        error("member a 1 1;", e, 11);
        error("member", e, 6);
        error("member a 1;do abcdefg put 1 1;", e, 14);
        error("member a 1;do a;", e, 15);
        error("member a 1;do a puts 1 1;", e, 16);
        error("member a 1;do a put;", e, 19);
        error("member a 1;do a put 1;", e, 21);
        error("member a 1;do a put 1 1 1;", e, 24);
        error("member a 1;do a copy 1 a;", e, 23);
        error("member a 1;fault abcdefg 1 1 1;", e, 17);
        error("member a 1;fault a;", e, 18);
        error("member a 1;fault a 1;", e, 20);
        error("member a 1;fault a 1 1;", e, 22);
        error("member a 1;fault a 1 1 1 1;", e, 25);
        error("set;", e, 3);
        error("set lags 1;", e, 4);
        error("set lag;", e, 7);
        error("set lag x;", e, 8);
        error("set 1 1;", e, 4);
        good("member abcdef 1;do abcdef put 1 1;seal;", 3);
        error("memberput 2;", e, 0);
        good("member lag1;set lag1;set quorum1;", 3);
        good("member put2;do put put1 1;do put add1 1;do put copy1 1;do put sum1 1;do put swap1 1;do put mul1 1;", 7);
    }

    private static void ranges() {
        int e = LockstepRoom.RANGE_ERROR;
        String a = "member a 1;";
        error("start 10000;", e, 6);
        error("start 1 2 99999999999999999999999999999999;", e, 10);
        // 2 to the power of 32, and of 64, and 1 more
        error("start 4294967297;", e, 6);
        error("start 18446744073709551617;", e, 6);
        good("start 9999 0 00000000000000000000009999;", 1);
        error("member a 0;", e, 9);
        error("member a 5;", e, 9);
        good("member a 4;", 1);
        error(a + "do a put 16 1;", e, 20);
        error(a + "do a put 15 10000;", e, 23);
        error(a + "do a add 15 10000;", e, 23);
        for (String sort : new String[] {"copy", "swap"}) {
            error(a + "do a " + sort + " 15 16;", e, 24);
            good(a + "do a " + sort + " 15 15;", 2);
        }
        for (String sort : new String[] {"sum", "mul"}) {
            error(a + "do a " + sort + " 15 16;", e, 23);
            good(a + "do a " + sort + " 0 15;", 2);
        }
        good(a + "do a put 15 9999;do a add 0 9999;do a put 0 0;", 4);
        error(a + "fault a 40 1 1;", e, 19);
        error(a + "fault a 39 16 1;", e, 22);
        error(a + "fault a 39 15 0;", e, 25);
        error(a + "fault a 39 15 10000;", e, 25);
        good(a + "fault a 39 15 9999;fault a 0 0 1;", 3);
        error("set lag 0;", e, 8);
        error("set lag 41;", e, 8);
        error("set quorum 0;", e, 11);
        error("set quorum 7;", e, 11);
        good("set lag 40;set quorum 6;", 2);
        good("set lag 1;set quorum 1;", 2);
    }

    private static void names() {
        error("do a put 1 1;member a 1;", LockstepRoom.NAME_ERROR, 3);
        error("fault a 1 1 1;", LockstepRoom.NAME_ERROR, 6);
        error("member a 1;do aa put 1 1;", LockstepRoom.NAME_ERROR, 14);
        error("member aa 1;fault a 1 1 1;", LockstepRoom.NAME_ERROR, 18);
        error("member ab 1;do ba put 1 1;", LockstepRoom.NAME_ERROR, 15);
    }

    private static void duplicates() {
        int e = LockstepRoom.DUPLICATE_ERROR;
        error("start 1;seal;start 2;", e, 13);
        error("member a 1;member a 2;", e, 18);
        error("member a 1;member b 1;member a 9;", e, 29);
        error("set lag 1;set lag 2;", e, 14);
        error("set quorum 1;set lag 2;set quorum 2;", e, 27);
        // as a name, start is none of the words of the text
        good("member start 1;start 1;do start put 1 1;", 3);
        error("start start;", LockstepRoom.SYNTAX_ERROR, 6);
        error("start 1;set lag 1;set start 1;", LockstepRoom.SYNTAX_ERROR, 22);
    }

    private static void counts() {
        int e = LockstepRoom.COUNT_ERROR;
        String sixteen = "start 1 2 3 4 5 6 7 8 9 0 1 2 3 4 5 6";
        good(sixteen + ";", 1);
        error(sixteen + " 7;", e, sixteen.length() + 1);
        error(sixteen + " 10000;", LockstepRoom.RANGE_ERROR, sixteen.length() + 1);
        error(sixteen + " a;", LockstepRoom.SYNTAX_ERROR, sixteen.length() + 1);
        String six = "member a 1;member b 1;member c 1;member d 1;member e 1;member f 1;";
        good(six, 6);
        error(six + " member g 1;", e, six.length() + 1);
        error(six + "member a 1;", e, six.length());
        String eight = "member a 1;" + "do a put 1 1;".repeat(8);
        good(eight, 9);
        error(eight + "do a put 1 1;", e, eight.length());
        good(eight + "seal;do a put 1 1;", 11);
        String forty = "seal;".repeat(40);
        good(forty, 40);
        error(forty + "seal;", e, 200);
        good("member a 1;" + forty + "do a put 1 1;", 42);
        String ten = "member a 1;" + "fault a 1 1 1;".repeat(10);
        good(ten, 11);
        error(ten + "fault a 1 1 1;", e, ten.length());
    }

    private static void firstOfSeveral() {
        error("seal;start 1;start 2;x", LockstepRoom.DUPLICATE_ERROR, 13);
        error("member a 9;member a 1;", LockstepRoom.RANGE_ERROR, 9);
        error("do b put 16 1;", LockstepRoom.NAME_ERROR, 3);
        error("member a 1;do a pot 16 1;", LockstepRoom.SYNTAX_ERROR, 16);
    }
}
