import java.nio.charset.StandardCharsets;
import java.util.Arrays;

/** The edges of the text format and of promises 2 to 4, sentence by sentence of the document. */
public final class TextEdgesTest {
    private static final Check check = new Check();
    private static final int NONE = LockstepRoom.NOT_FOUND;
    private static final int SYNTAX = LockstepRoom.SYNTAX_ERROR;
    private static final int RANGE = LockstepRoom.RANGE_ERROR;
    private static final int NAME = LockstepRoom.NAME_ERROR;
    private static final int DUPLICATE = LockstepRoom.DUPLICATE_ERROR;
    private static final int COUNT = LockstepRoom.COUNT_ERROR;
    private static final String A = "member a 1;";

    public static void main(String[] args) {
        fourBytesOfEachParameter();
        atMost900Bytes();
        nothingIsAppendedThen();
        lengthFrom0ToTheBytesInTheBuffer();
        theFirstBytesAlone();
        replacesTheRoom();
        theBufferIsEmptied();
        noMemberHasExecutedATurn();
        nothingCanBeUndone();
        anErrorChangesNothing();
        errorPosition();
        errorPositionStaysAfterBadValue();
        wordsAreMaximalRuns();
        integersOfAnyLength();
        blanksBetweenTokens();
        anyOtherCharacter();
        everyCutText();
        wordsOfTheFormat();
        grammarOfStart();
        grammarOfMember();
        grammarOfDo();
        grammarOfSeal();
        grammarOfFault();
        grammarOfSet();
        atMost16NumbersBehindStart();
        theOthersAre0();
        declaredBefore();
        namesOfOneToSixLetters();
        whateverStandsThereIsAName();
        theFirstErrorInTheOrderOfTheText();
        theOneListedFirst();
        theTextEndsTooEarly();
        outsideItsRange();
        namesThatAreNone();
        duplicates();
        counts();
        countsStartAgain();
        numberOfStatements();
        check.finish();
    }

    /** The text is read in one go, and the error stands where it is due. */
    private static void error(String text, int code, int position) {
        LockstepRoom x = new LockstepRoom();
        check.due("load of <" + text + ">", Check.load(x, text), code);
        check.due("errorPosition of <" + text + ">", x.errorPosition(), position);
    }

    /** The error stands at the sign | of the text, which is taken out of it. */
    private static void errorAt(String marked, int code) {
        error(marked.replace("|", ""), code, marked.indexOf('|'));
    }

    private static void good(String text, int statements) {
        error(text, statements, NONE);
    }

    // Promise 2

    private static void fourBytesOfEachParameter() {
        check.about("Appends 20 bytes: the four bytes of each parameter, most significant byte first");
        // each of the 20 places in turn holds the one byte that is not allowed; bytes above 127 make a number below 0
        for (int place = 0; place < 20; place++) {
            for (int odd : new int[] {0, 127, 128, 255}) {
                byte[] bytes = new byte[20];
                Arrays.fill(bytes, (byte) ' ');
                bytes[place] = (byte) odd;
                LockstepRoom x = new LockstepRoom();
                check.due("feed", Check.feed(x, new String(bytes, StandardCharsets.ISO_8859_1)), 20);
                check.due("load with byte " + odd + " at " + place, x.load(20), SYNTAX);
                check.due("errorPosition", x.errorPosition(), place);
            }
        }
        LockstepRoom y = new LockstepRoom();
        check.due("feed of numbers below 0", y.feed(-1, -1, -1, -1, Integer.MIN_VALUE), 20);
        check.due("load", y.load(1), SYNTAX);
        check.due("feed", y.feed(0x7365616c, 0x3b736561, 0x6c3b7365, 0x616c3b20, 0x0a73656c), 20);
        check.due("load of the first 16", y.load(16), 3);
    }

    private static void atMost900Bytes() {
        check.about("FULL if the buffer would hold more than 900 bytes");
        LockstepRoom x = new LockstepRoom();
        for (int n = 1; n <= 45; n++) {
            check.due("feed " + n, x.feed(0x20202020, 0x20202020, 0x20202020, 0x20202020, 0x20202020), 20 * n);
        }
        check.due("feed 46", x.feed(0x20202020, 0x20202020, 0x20202020, 0x20202020, 0x20202020), LockstepRoom.FULL);
        check.due("feed 47", x.feed(0x20202020, 0x20202020, 0x20202020, 0x20202020, 0x20202020), LockstepRoom.FULL);
        check.due("load(900)", x.load(900), 0);
        check.due("feed to the empty buffer", x.feed(0, 0, 0, 0, 0), 20);
    }

    private static void nothingIsAppendedThen() {
        check.about("nothing is appended then");
        String full = "seal;".repeat(4) + " ".repeat(875) + "seal;";
        LockstepRoom x = new LockstepRoom();
        check.due("feed", Check.feed(x, full), 900);
        check.due("feed beyond", x.feed(-1, -1, -1, -1, -1), LockstepRoom.FULL);
        check.due("load(901)", x.load(901), LockstepRoom.BAD_VALUE);
        check.due("load(900)", x.load(900), 5);
        check.due("load(1) of the empty buffer", x.load(1), LockstepRoom.BAD_VALUE);
    }

    // Promise 3

    private static void lengthFrom0ToTheBytesInTheBuffer() {
        check.about("length: from 0 to the number of bytes in the buffer; BAD_VALUE if it is out of range (the buffer is unchanged then)");
        LockstepRoom x = new LockstepRoom();
        check.due("load(1) of a new room", x.load(1), LockstepRoom.BAD_VALUE);
        check.due("load(-1) of a new room", x.load(-1), LockstepRoom.BAD_VALUE);
        check.due("load(0) of a new room", x.load(0), 0);
        for (int bytes : new int[] {20, 40, 900}) {
            String text = "seal;".repeat(bytes == 900 ? 40 : bytes / 5) + " ".repeat(bytes == 900 ? 700 : 0);
            check.due("feed", Check.feed(x, text), bytes);
            for (int bad : new int[] {-1, bytes + 1, Integer.MIN_VALUE, Integer.MAX_VALUE}) {
                check.due("load(" + bad + ")", x.load(bad), LockstepRoom.BAD_VALUE);
            }
            check.due("load of all", x.load(bytes), Math.min(40, bytes / 5));
            check.due("seals", x.count(1), Math.min(40, bytes / 5));
        }
        check.due("load(0)", x.load(0), 0);
        check.due("seals", x.count(1), 0);
    }

    private static void theFirstBytesAlone() {
        check.about("the first length bytes of the input buffer");
        String text = A + "seal;";
        int[] due = {0, SYNTAX, SYNTAX, SYNTAX, SYNTAX, SYNTAX, SYNTAX, SYNTAX, SYNTAX, SYNTAX, SYNTAX, 1, SYNTAX, SYNTAX, SYNTAX, SYNTAX, 2};
        for (int length = 0; length < due.length; length++) {
            LockstepRoom x = new LockstepRoom();
            Check.feed(x, text);
            check.due("load(" + length + ")", x.load(length), due[length]);
            // a word that is cut is another word, and wrong where it begins
            int position = length < 6 ? 0 : length > 11 && length < 15 ? 11 : length;
            check.due("errorPosition of load(" + length + ")", x.errorPosition(), due[length] == SYNTAX ? position : NONE);
        }
        // an integer that is cut is another integer
        LockstepRoom y = new LockstepRoom();
        Check.feed(y, "set lag 40;");
        check.due("load without the semicolon", y.load(10), SYNTAX);
        Check.feed(y, "start 99999;");
        check.due("load of a cut integer", y.load(10), SYNTAX);
        check.due("errorPosition of a cut integer", y.errorPosition(), 10);
        Check.feed(y, "start 99999;");
        check.due("load of an integer that is not cut", y.load(11), RANGE);
    }

    private static void replacesTheRoom() {
        check.about("Settings and cells that the text does not give have their initial values");
        Snapshot.Recipe empty = LockstepRoom::new;
        // filled three times, as a room may keep what was before the last one
        Snapshot.Recipe filled = () -> {
            LockstepRoom x = new LockstepRoom();
            for (int n = 0; n < 3; n++) {
                Check.load(x, "start 1 2 3;member a 2;member b 3;set lag 3;set quorum 1;do a put 4 4;fault b 0 0 1;fault a 9 9 9;seal;do b put 1 1;");
                x.tick();
                x.healAll();
                x.fault(0, 1, 15, 9);
                x.seal();
                x.tick();
                x.setSetting(LockstepRoom.QUORUM, 1);
                x.leave(1);
                x.join(2);
                x.undo();
                x.undo();
                x.join(2);
                x.leave(0);
            }
            return x;
        };
        check.due("the room before is another one", Snapshot.of(filled).equals(Snapshot.of(empty)), false);
        check.due("the empty text makes a new room", Snapshot.of(Snapshot.then(filled, x -> x.load(0))), Snapshot.of(empty));
        String text = "member c 4;seal;do c add 1 1;fault c 0 1 1;";
        check.due("nothing is left of the room before", Snapshot.of(Snapshot.then(filled, x -> Check.load(x, text))), Snapshot.of(() -> Check.loaded(text)));
        String more = "member d 4;member e 4;member f 4;member g 4;member h 4;" + "seal;".repeat(40);
        check.due("nothing is left of the room before", Snapshot.of(Snapshot.then(filled, x -> Check.load(x, more))), Snapshot.of(() -> Check.loaded(more)));
        check.about("what was written to the output buffer stays");
        LockstepRoom y = filled.make();
        int length = y.write(1);
        check.due("first character", y.outputAt(0), 'b');
        y.load(0);
        check.due("first character behind load", y.outputAt(0), 'b');
        check.due("last character behind load", y.outputAt(length - 1), '0');
        check.due("behind the last one", y.outputAt(length), NONE);
        Check.load(y, "x");
        check.due("first character behind an error", y.outputAt(0), 'b');
        check.due("last character behind an error", y.outputAt(length - 1), '0');
    }

    private static void theBufferIsEmptied() {
        check.about("empties the buffer; if the text has an error it is emptied all the same");
        for (String text : new String[] {"", "seal;", "x", "start 10000;"}) {
            LockstepRoom x = new LockstepRoom();
            Check.feed(x, text + " ".repeat(40 - text.length()));
            x.load(text.length());
            check.due("load(1) behind <" + text + ">", x.load(1), LockstepRoom.BAD_VALUE);
            check.due("feed behind <" + text + ">", x.feed(0x7365616c, 0x3b202020, 0, 0, 0), 20);
            check.due("load(5) behind <" + text + ">", x.load(5), 1);
        }
    }

    private static void noMemberHasExecutedATurn() {
        check.about("no member has executed a turn");
        LockstepRoom x = Check.loaded("member a 4;seal;");
        x.tick();
        check.due("executed", x.memberNumber(0, 1), 1);
        check.due("load", Check.load(x, "member a 4;seal;seal;fault a 0 0 1;"), 4);
        check.due("executed", x.memberNumber(0, 1), 0);
        check.due("greatest", x.reached(true), 0);
        check.due("rootAt(0, 0)", x.rootAt(0, 0), x.checksum(0, 1));
        check.due("rootAt(0, 1)", x.rootAt(0, 1), NONE);
    }

    private static void nothingCanBeUndone() {
        check.about("After a successful load nothing can be undone");
        LockstepRoom x = new LockstepRoom();
        for (int n = 0; n < 10; n++) {
            x.seal();
        }
        check.due("undoCount ahead of it", x.undoCount(), 10);
        check.due("load(0)", x.load(0), 0);
        check.due("undoCount", x.undoCount(), 0);
        check.due("undo", x.undo(), NONE);
        check.due("sealed", x.count(1), 0);
        check.due("seal", x.seal(), 1);
        check.due("undo of what came behind it", x.undo(), 0);
        check.due("undo", x.undo(), NONE);
    }

    private static void anErrorChangesNothing() {
        check.about("If the text has an error, nothing but the buffer changes");
        Snapshot.Recipe before = () -> {
            LockstepRoom x = Check.loaded("start 5 6;member a 2;member b 3;set lag 3;do a put 4 4;fault b 0 0 1;fault a 9 9 9;seal;do b put 1 1;");
            x.tick();
            x.seal();
            x.write(1);
            Check.load(x, "x");
            return x;
        };
        String due = Snapshot.of(before);
        String most = "start 7;member c 1;set quorum 1;set lag 1;do c add 1 1;seal;do c add 1 1;fault c 0 0 1;";
        for (String text : new String[] {"x", most + "x", most + "do c put 0 10000;", most + "do a put 0 0;", most + "start 8;", most + "seal;".repeat(40)}) {
            // the position is that of the error before, so that it is the same snapshot
            Snapshot.Recipe behind = Snapshot.then(before, x -> {
                int answer = Check.load(x, text);
                check.due("load of <" + text + ">", answer < -10, true);
                return Check.load(x, "x");
            });
            check.due("the room behind <" + text + ">", Snapshot.of(behind), due);
        }
    }

    // Promise 4

    private static void errorPosition() {
        check.about("Returns the position of the error of the latest load; NOT_FOUND if that load had no error or there was none");
        LockstepRoom x = new LockstepRoom();
        check.due("errorPosition ahead of a load", x.errorPosition(), NONE);
        Check.load(x, "x");
        check.due("errorPosition at the first byte", x.errorPosition(), 0);
        x.load(0);
        check.due("errorPosition of the empty text", x.errorPosition(), NONE);
        String longest = " ".repeat(899) + "x";
        check.due("load", Check.load(x, longest), SYNTAX);
        check.due("errorPosition at the last byte", x.errorPosition(), 899);
        check.due("load", Check.load(x, " ".repeat(896) + "seal"), SYNTAX);
        check.due("errorPosition behind the last byte", x.errorPosition(), 900);
        check.due("load", Check.load(x, "seal;"), 1);
        check.due("errorPosition of a good text", x.errorPosition(), NONE);
    }

    private static void errorPositionStaysAfterBadValue() {
        check.about("the latest load that did not return BAD_VALUE");
        LockstepRoom x = new LockstepRoom();
        check.due("load(-1)", x.load(-1), LockstepRoom.BAD_VALUE);
        check.due("errorPosition", x.errorPosition(), NONE);
        Check.load(x, "seal;;");
        check.due("load(1)", x.load(1), LockstepRoom.BAD_VALUE);
        check.due("errorPosition behind BAD_VALUE", x.errorPosition(), 5);
        x.seal();
        x.undo();
        check.due("errorPosition behind undo", x.errorPosition(), 5);
        check.due("load(0)", x.load(0), 0);
        check.due("load(1)", x.load(1), LockstepRoom.BAD_VALUE);
        check.due("errorPosition behind BAD_VALUE", x.errorPosition(), NONE);
    }

    // TEXT FORMAT: tokens

    private static void wordsAreMaximalRuns() {
        check.about("words (maximal runs of the letters a to z)");
        good("member az 1;do az put 0 0;", 2);
        good("member a1;do a put0 0;seal;", 3);
        errorAt("|seala;", SYNTAX);
        errorAt("|sealseal;", SYNTAX);
        errorAt("member a1;|doa put 0 0;", SYNTAX);
        errorAt("member a1;do a |putput 0 0;", SYNTAX);
        errorAt("set |lagg 1;", SYNTAX);
        // a sign within a word ends it, and what stands ahead of the sign is no word of the format
        error("se`al;", SYNTAX, 0);
        error("se{al;", SYNTAX, 0);
        errorAt("|`;", SYNTAX);
        errorAt("|{;", SYNTAX);
        errorAt("|A;", SYNTAX);
        errorAt("|Z;", SYNTAX);
        errorAt("member |A 1;", SYNTAX);
        errorAt("member a|B 1;", SYNTAX);
    }

    private static void integersOfAnyLength() {
        check.about("integers (maximal runs of decimal digits, read as unsigned numbers of any length)");
        LockstepRoom x = Check.loaded("start " + "0".repeat(800) + "9999 0 00;" + A);
        check.due("cell 0", x.cellOf(0, 0), 9999);
        check.due("cell 1", x.cellOf(0, 1), 0);
        errorAt("start |" + "9".repeat(880) + ";", RANGE);
        errorAt("start |1" + "0".repeat(880) + ";", RANGE);
        // numbers that would be in the range if they wrapped around at 2 to the power of 8, 16, 31, 32, 63 or 64
        for (String wrapped : new String[] {"65536", "65537", "2147483648", "2147483649", "4294967296", "4294967297", "9223372036854775808", "9223372036854775809",
            "18446744073709551616", "18446744073709551617", "340282366920938463463374607431768211457"}) {
            errorAt("start |" + wrapped + ";", RANGE);
            errorAt("member a |" + wrapped + ";", RANGE);
            errorAt("set quorum |" + wrapped + ";", RANGE);
        }
        errorAt("set lag |256;", RANGE);
        errorAt("set lag |257;", RANGE);
        errorAt("start |10000;", RANGE);
        errorAt("start |100000;", RANGE);
        errorAt("start |-1;", SYNTAX);
        errorAt("start |+1;", SYNTAX);
        errorAt("start 1|.5;", SYNTAX);
        errorAt("start 1|/;", SYNTAX);
        errorAt("start 1|:;", SYNTAX);
        errorAt("start |/;", SYNTAX);
        errorAt("start |:;", SYNTAX);
        LockstepRoom y = Check.loaded("start 12 1 2 012;" + A);
        check.due("a maximal run", y.cellOf(0, 0), 12);
        check.due("two runs", y.cellOf(0, 1), 1);
        check.due("two runs", y.cellOf(0, 2), 2);
        check.due("a leading zero", y.cellOf(0, 3), 12);
        check.due("no more", y.cellOf(0, 4), 0);
        LockstepRoom z = Check.loaded("start 9999 9998 1000 999 1234 10 09;" + A);
        check.due("numbers", Check.written(z, 0), "a: 9999 9998 1000 999 1234 10 9 0 0 0 0 0 0 0 0 0");
    }

    private static void blanksBetweenTokens() {
        check.about("Spaces (32) and newlines (10) may stand between tokens, ahead of the first one and behind the last one");
        String[] tokens = {"member", "ab", "2", ";", "do", "ab", "put", "3", "9", ";", "seal", ";", "fault", "ab", "1", "2", "3", ";", "set", "lag", "5", ";"};
        for (String blank : new String[] {" ", "\n", "  ", "\n\n", " \n", "\n \n "}) {
            String text = blank + String.join(blank, tokens) + blank;
            good(text, 5);
            LockstepRoom x = Check.loaded(text);
            check.due("name", x.memberNamed(Check.letters("ab")), 0);
            check.due("pace", x.memberNumber(0, 0), 2);
            check.due("truth", x.truth(1, 3), 9);
            check.due("fault", x.faultNumber(0, 3), 3);
            check.due("lag", x.getSetting(LockstepRoom.LAG), 5);
        }
        good(" ".repeat(900), 0);
        good("\n".repeat(900), 0);
        good(" ".repeat(895) + "seal;", 1);
        good("seal;" + "\n".repeat(895), 1);
        check.about("none is needed between a word and an integer, nor about ';'");
        good("start1;member a2;do a put3 4;seal;fault a5 6 7;set lag8;set quorum3;", 7);
        errorAt("member|;", SYNTAX);
        error("memberab 2;", SYNTAX, 0);
        error("se al;", SYNTAX, 0);
    }

    private static void anyOtherCharacter() {
        check.about("Any other character is a token that is never allowed");
        for (int c = 0; c < 256; c++) {
            boolean isKnown = c == ' ' || c == '\n' || c == ';' || c >= '0' && c <= '9' || c >= 'a' && c <= 'z';
            if (!isKnown) {
                String sign = String.valueOf((char) c);
                String[] texts = {"|", "seal|;", "seal;|", "start 1|;", "start |1;", "member |a 1;", "member a|b 1;", "member a 1|;", "member a|",
                    A + "do a| put 1 1;", A + "do a put |1 1;", A + "fault a 1 |1 1;", "set |lag 1;", "set lag|1;"};
                for (String text : texts) {
                    int at = text.indexOf('|');
                    LockstepRoom x = new LockstepRoom();
                    check.due("load of <" + text + "> with character " + c, Check.load(x, text.replace("|", sign)), SYNTAX);
                    check.due("errorPosition of <" + text + "> with character " + c, x.errorPosition(), at);
                }
            }
        }
    }

    private static void everyCutText() {
        check.about("SYNTAX_ERROR: if the text ends too early, the position is its length");
        String text = "start 1 2;member a 4;set quorum 3;do a mul 15 9;seal;fault a 39 15 9999;set lag 12;";
        int statements = 0;
        for (int length = 0; length <= text.length(); length++) {
            boolean isWhole = length == 0 || text.charAt(length - 1) == ';';
            statements += length > 0 && isWhole ? 1 : 0;
            boolean isCutWord = length > 0 && Character.isLetter(text.charAt(length - 1)) && length < text.length()
                    && Character.isLetter(text.charAt(length));
            if (!isCutWord) {
                LockstepRoom x = new LockstepRoom();
                check.due("load of <" + text.substring(0, length) + ">", Check.load(x, text.substring(0, length)), isWhole ? statements : SYNTAX);
                check.due("errorPosition", x.errorPosition(), isWhole ? NONE : length);
            }
        }
    }

    // TEXT FORMAT: statements

    /** Each token of a good statement in turn is taken out, and is replaced by a word, an integer and a semicolon that do not fit. */
    private static void broken(String begin, String... tokens) {
        for (int k = 0; k < tokens.length; k++) {
            StringBuilder ahead = new StringBuilder(begin);
            for (int n = 0; n < k; n++) {
                ahead.append(tokens[n]).append(' ');
            }
            StringBuilder behind = new StringBuilder();
            for (int n = k + 1; n < tokens.length; n++) {
                behind.append(' ').append(tokens[n]);
            }
            boolean isInteger = Character.isDigit(tokens[k].charAt(0));
            if (!tokens[k].equals(";")) {
                errorAt(ahead + "|;" + behind, SYNTAX);
            } else if (!tokens[0].equals("start")) {
                errorAt(ahead + "|1" + behind, SYNTAX);
            }
            errorAt(ahead + "|" + (isInteger || tokens[k].equals(";") ? "x" : "1") + behind, SYNTAX);
            errorAt(ahead + "|toolong" + behind, SYNTAX);
            errorAt(ahead + "|!" + behind, SYNTAX);
            if (k > 0) {
                error(ahead.toString(), SYNTAX, ahead.length());
            }
        }
    }

    /** Each letter of each word of the format in turn is another one, or is taken out. */
    private static void wordsOfTheFormat() {
        check.about("SYNTAX_ERROR: the token is not allowed here");
        String[] texts = {"|start| 1;", "|member| a 1;", A + "|do| a put 1 1;", "|seal|;", A + "|fault| a 1 1 1;", "|set| lag 1;", "set |lag| 1;", "set |quorum| 1;",
            A + "do a |put| 1 1;", A + "do a |add| 1 1;", A + "do a |copy| 1 1;", A + "do a |sum| 1 1;", A + "do a |swap| 1 1;", A + "do a |mul| 1 1;"};
        for (String text : texts) {
            int first = text.indexOf('|');
            String ahead = text.substring(0, first);
            String word = text.substring(first + 1, text.lastIndexOf('|'));
            String behind = text.substring(text.lastIndexOf('|') + 1);
            good(ahead + word + behind, ahead.startsWith(A) ? 2 : 1);
            for (int k = 0; k < word.length(); k++) {
                String end = word.substring(k + 1);
                for (int step = -1; step <= 1; step += 2) {
                    errorAt(ahead + "|" + word.substring(0, k) + (char) (word.charAt(k) + step) + end + behind, SYNTAX);
                }
                errorAt(ahead + "|" + word.substring(0, k) + end + behind, SYNTAX);
                errorAt(ahead + "|" + word.substring(0, k) + word.charAt(k) + word.charAt(k) + end + behind, SYNTAX);
            }
        }
    }

    private static void grammarOfStart() {
        check.about("statement = \"start\" number { number }");
        broken("seal;", "start", "1", ";");
        errorAt("start|;", SYNTAX);
        errorAt("start |seal;", SYNTAX);
        errorAt("start|", SYNTAX);
        errorAt("start 1 |seal;", SYNTAX);
        good("start 1;", 1);
        good("start 1 2;", 1);
    }

    private static void grammarOfMember() {
        check.about("\"member\" name pace");
        broken("seal;", "member", "a", "1", ";");
        errorAt("member a 1 |1;", SYNTAX);
        errorAt("member a 1 |b 1;", SYNTAX);
        errorAt("member a |b;", SYNTAX);
    }

    private static void grammarOfDo() {
        check.about("\"do\" name sort cell operand");
        for (String sort : new String[] {"put", "add", "copy", "sum", "swap", "mul"}) {
            broken(A, "do", "a", sort, "1", "2", ";");
            errorAt(A + "do a " + sort + " 1 2 |3;", SYNTAX);
            errorAt(A + "do a |" + sort + "s 1 2;", SYNTAX);
            errorAt(A + "do a |" + sort.substring(1) + " 1 2;", SYNTAX);
            errorAt(A + "do a |" + sort.substring(0, sort.length() - 1) + " 1 2;", SYNTAX);
            LockstepRoom x = Check.loaded(A + "do a " + sort + " 1 2;seal;");
            check.due("sort of " + sort, x.command(0, 0, 1), "put add copy sum swap mul ".replaceAll("(?<=" + sort + ").*", "").split(" ").length - 1);
        }
        errorAt(A + "do a |lag 1 2;", SYNTAX);
    }

    private static void grammarOfSeal() {
        check.about("\"seal\"");
        broken("seal;", "seal", ";");
        errorAt("seal |seal;", SYNTAX);
        errorAt("|;", SYNTAX);
        errorAt("seal;|;", SYNTAX);
    }

    private static void grammarOfFault() {
        check.about("\"fault\" name turn cell amount");
        broken(A, "fault", "a", "1", "2", "3", ";");
        errorAt(A + "fault a 1 2 3 |4;", SYNTAX);
    }

    private static void grammarOfSet() {
        check.about("\"set\" setting integer; setting = \"lag\" | \"quorum\"");
        broken("seal;", "set", "lag", "2", ";");
        broken("seal;", "set", "quorum", "2", ";");
        errorAt("set |quoru 1;", SYNTAX);
        errorAt("set |quorums 1;", SYNTAX);
        errorAt("set |la 1;", SYNTAX);
        errorAt("set |put 1;", SYNTAX);
        errorAt("set lag 1 |1;", SYNTAX);
        LockstepRoom x = Check.loaded("set quorum 3;set lag 5;");
        check.due("lag", x.getSetting(LockstepRoom.LAG), 5);
        check.due("quorum", x.getSetting(LockstepRoom.QUORUM), 3);
    }

    private static void atMost16NumbersBehindStart() {
        check.about("The numbers behind start (0 to 9999, at most 16) are those of the cells from 0 on with which all members begin");
        for (int numbers = 1; numbers <= 16; numbers++) {
            StringBuilder text = new StringBuilder("start");
            for (int c = 0; c < numbers; c++) {
                text.append(' ').append(c == numbers - 1 ? 9999 : c * 3);
            }
            LockstepRoom x = Check.loaded("member a 1;" + text + ";member b 1;");
            for (int m = 0; m < 2; m++) {
                for (int c = 0; c < 16; c++) {
                    check.due("cellOf(" + m + ", " + c + ") of " + numbers, x.cellOf(m, c), c == numbers - 1 ? 9999 : c < numbers ? c * 3 : 0);
                }
            }
        }
        errorAt("start" + " 1".repeat(16) + " |1;", COUNT);
        errorAt("start" + " 1".repeat(16) + " |1 1;", COUNT);
        errorAt("start" + " 1".repeat(16) + " |9999;", COUNT);
        errorAt("start" + " 1".repeat(16) + " |0;", COUNT);
        errorAt("start" + " 1".repeat(15) + " |10000;", RANGE);
        errorAt("start" + " 1".repeat(16) + " |x;", SYNTAX);
        errorAt("start" + " 1".repeat(16) + "|", SYNTAX);
    }

    private static void theOthersAre0() {
        check.about("the others are 0, also without this statement");
        LockstepRoom x = Check.loaded("start" + " 7".repeat(16) + ";" + A);
        check.due("cell 15", x.cellOf(0, 15), 7);
        Check.load(x, "start 8;" + A);
        check.due("cell 0", x.cellOf(0, 0), 8);
        for (int c = 1; c < 16; c++) {
            check.due("cell " + c, x.cellOf(0, c), 0);
        }
        Check.load(x, A);
        for (int c = 0; c < 16; c++) {
            check.due("cell " + c + " without start", x.cellOf(0, c), 0);
            check.due("truth of cell " + c + " without start", x.truth(0, c), 0);
        }
        // a text with an error does not leave its start behind
        Check.load(x, "start 9 9;x");
        check.due("truth behind an error", x.truth(0, 0), 0);
        Check.load(x, A);
        check.due("cell 1 of the next text", x.cellOf(0, 1), 0);
    }

    private static void declaredBefore() {
        check.about("The name behind do or fault is that of a member declared before");
        errorAt("do |a put 1 1;" + A, NAME);
        errorAt("fault |a 1 1 1;" + A, NAME);
        errorAt(A + "do |b put 1 1;member b 1;", NAME);
        errorAt(A + "fault |b 1 1 1;member b 1;", NAME);
        good(A + "do a put 1 1;fault a 1 1 1;member b 1;do b put 1 1;fault b 1 1 1;do a put 1 1;", 7);
    }

    private static void namesOfOneToSixLetters() {
        check.about("A name is a word of 1 to 6 letters; a longer word is not allowed where a name is");
        for (String name : new String[] {"a", "z", "zz", "azazaz", "abcdef", "zzzzzz"}) {
            LockstepRoom x = Check.loaded("member " + name + " 1;do " + name + " put 1 1;fault " + name + " 1 1 1;");
            check.due("memberNamed of " + name, x.memberNamed(Check.letters(name)), 0);
            x.write(0);
            check.due("written " + name, Check.written(x, 0).substring(0, name.length() + 1), name + ":");
        }
        for (String name : new String[] {"abcdefg", "zzzzzzz", "a".repeat(12), "b".repeat(800)}) {
            errorAt("member |" + name + " 1;", SYNTAX);
            errorAt(A + "do |" + name + " put 1 1;", SYNTAX);
            errorAt(A + "fault |" + name + " 1 1 1;", SYNTAX);
        }
        // the first six letters of a longer word are not a name
        errorAt("member abcdef 1;do |abcdefg put 1 1;", SYNTAX);
        errorAt("member |7 1;", SYNTAX);
        errorAt("member |; 1;", SYNTAX);
    }

    private static void whateverStandsThereIsAName() {
        check.about("whatever stands where a name is allowed is one");
        for (String word : new String[] {"start", "member", "do", "seal", "fault", "set", "put", "add", "copy", "sum", "swap", "mul", "lag", "quorum"}) {
            good("member " + word + " 1;do " + word + " put 1 1;fault " + word + " 1 1 1;" + "start 1;seal;set lag 1;set quorum 1;", 7);
            errorAt("member |" + word + "abcdef 1;", SYNTAX);
            errorAt("do |" + word + " put 1 1;", NAME);
            errorAt("member " + word + " 1;member |" + word + " 1;", DUPLICATE);
        }
    }

    // TEXT FORMAT: errors

    private static void theFirstErrorInTheOrderOfTheText() {
        check.about("The first error in the order of the text is reported, at the position of the first character of its token");
        String[] wrong = {"|x;", "start |10000;", "member a |5;", "do |b put 1 1;", "set lag |41;", "start |;"};
        int[] codes = {SYNTAX, RANGE, RANGE, NAME, RANGE, SYNTAX};
        for (int first = 0; first < wrong.length; first++) {
            for (String second : wrong) {
                errorAt("seal;  \n" + wrong[first] + second.replace("|", ""), codes[first]);
            }
        }
        errorAt(A + "do |b pot 16 16;", NAME);
        errorAt(A + "do a |pot 16 16;", SYNTAX);
        errorAt(A + "do a put |16 10000;", RANGE);
        errorAt(A + "do a put 15 |10000 x", RANGE);
        errorAt(A + "do a put 15 9999 |x", SYNTAX);
        errorAt(A + "fault |b 40 16 0;", NAME);
        errorAt(A + "fault a |40 16 0;", RANGE);
        errorAt(A + "fault a 39 |16 0;", RANGE);
        errorAt(A + "fault a 39 15 |0 x", RANGE);
        errorAt(A + "member |a 5;", DUPLICATE);
        errorAt("member b |5 x", RANGE);
        errorAt("set lag 1;set |lag 41;", DUPLICATE);
        errorAt("start 1;|start x", DUPLICATE);
        errorAt("start 1|\u00e9;start 2;", SYNTAX);
        // an error later in the text does not hide behind a statement that is complete
        errorAt("seal;seal;|seals;x", SYNTAX);
    }

    private static void theOneListedFirst() {
        check.about("If several errors apply to one token, the one listed first is reported");
        // RANGE_ERROR is listed ahead of COUNT_ERROR, SYNTAX_ERROR ahead of all
        errorAt("start" + " 0".repeat(16) + " |10000;", RANGE);
        errorAt("start" + " 0".repeat(16) + " |99999999999;", RANGE);
        errorAt(A + "member |aaaaaaa 1;", SYNTAX);
        errorAt(A + "do |bbbbbbb put 1 1;", SYNTAX);
        errorAt("start 1;set lag 1;set |start 1;", SYNTAX);
        errorAt("seal |10000;", SYNTAX);
    }

    private static void theTextEndsTooEarly() {
        check.about("if the text ends too early, the position is its length");
        error("seal", SYNTAX, 4);
        error("seal   ", SYNTAX, 7);
        error("seal \n", SYNTAX, 6);
        error("member a 1;do a put 15 ", SYNTAX, 23);
        error("start" + " 1".repeat(16) + "  ", SYNTAX, 39);
        error("start " + "1".repeat(3), SYNTAX, 9);
        error(" ".repeat(896) + "seal", SYNTAX, 900);
        error("seal;".repeat(39) + "seal", SYNTAX, 199);
        good("", 0);
        good(" ", 0);
    }

    private static void outsideItsRange() {
        check.about("RANGE_ERROR: an integer is outside its range");
        ranged("start ", ";", 0, 9999);
        ranged("start 5 ", " 6;", 0, 9999);
        ranged("start" + " 1".repeat(15) + " ", ";", 0, 9999);
        ranged("member a ", ";", 1, 4);
        for (String sort : new String[] {"put", "add", "copy", "sum", "swap", "mul"}) {
            ranged(A + "do a " + sort + " ", " 0;", 0, 15);
            ranged(A + "do a " + sort + " 0 ", ";", 0, sort.equals("put") || sort.equals("add") ? 9999 : 15);
        }
        ranged(A + "fault a ", " 0 1;", 0, 39);
        ranged(A + "fault a 0 ", " 1;", 0, 15);
        ranged(A + "fault a 0 0 ", ";", 1, 9999);
        ranged("set lag ", ";", 1, 40);
        ranged("set quorum ", ";", 1, 6);
    }

    private static void ranged(String ahead, String behind, int least, int greatest) {
        int statements = ahead.startsWith(A) ? 2 : 1;
        good(ahead + least + behind, statements);
        good(ahead + "00" + least + behind, statements);
        good(ahead + greatest + behind, statements);
        good(ahead + "000000000000" + greatest + behind, statements);
        if (least > 0) {
            errorAt(ahead + "|" + (least - 1) + behind, RANGE);
            errorAt(ahead + "|0000" + behind, RANGE);
        }
        errorAt(ahead + "|" + (greatest + 1) + behind, RANGE);
        errorAt(ahead + "|" + greatest + "0" + behind, RANGE);
        errorAt(ahead + "|4294967297" + behind, RANGE);
        errorAt(ahead + "|-" + least + behind, SYNTAX);
    }

    private static void namesThatAreNone() {
        check.about("NAME_ERROR: a name that must be that of a member and is not");
        String two = "member ab 1;member b 1;";
        for (String name : new String[] {"a", "aa", "abb", "ba", "bb", "c", "aba", "abaaaa", "zzzzzz"}) {
            errorAt(two + "do |" + name + " put 1 1;", NAME);
            errorAt(two + "fault |" + name + " 1 1 1;", NAME);
            good(two + "member " + name + " 1;do " + name + " put 1 1;", 4);
        }
        // the sixth letter counts
        errorAt("member abcdef 1;do |abcdeg put 1 1;", NAME);
        errorAt("member abcdef 1;do |abcde put 1 1;", NAME);
        errorAt("member abcdef 1;do |bbcdef put 1 1;", NAME);
    }

    private static void duplicates() {
        check.about("DUPLICATE_ERROR: the name of a member that another one has; the word start for the second time; the name of a setting that was already given");
        String five = "member a 1;member b 1;member abcdef 1;member d 1;member e 1;";
        for (String name : new String[] {"a", "b", "abcdef", "d", "e"}) {
            errorAt(five + "member |" + name + " 1;", DUPLICATE);
        }
        good(five + "member abcdeg 1;", 6);
        errorAt("start 1;|start 1;", DUPLICATE);
        errorAt("start 1;" + A + "seal;\n |start 1;", DUPLICATE);
        errorAt("start 1;|start;", DUPLICATE);
        errorAt("set lag 40;set |lag 40;", DUPLICATE);
        errorAt("set quorum 2;set |quorum 2;", DUPLICATE);
        errorAt("set lag 3;set quorum 2;set |lag 3;", DUPLICATE);
        errorAt("set quorum 3;set lag 2;set |quorum 3;", DUPLICATE);
        good("set quorum 3;set lag 2;start 1;", 3);
        good("set lag 2;set quorum 3;start 1;", 3);
        // the next text begins anew, also behind an error
        LockstepRoom x = Check.loaded("start 1;set lag 2;set quorum 3;" + A);
        check.due("the same text again", Check.load(x, "start 1;set lag 2;set quorum 3;" + A), 4);
        check.due("an error", Check.load(x, "start 1;set lag 2;set quorum 3;" + A + "x"), SYNTAX);
        check.due("the same text again", Check.load(x, "start 1;set lag 2;set quorum 3;" + A), 4);
    }

    private static void counts() {
        check.about("COUNT_ERROR: the first word of a statement that declares a seventh member, a ninth command of a turn, a 41st seal or an 11th fault");
        limited("", "member", 6, (n) -> "member " + (char) ('a' + n) + " 1;");
        limited(A, "do", 8, (n) -> "do a put 1 " + n + ";");
        limited("", "seal", 40, (n) -> "seal;");
        limited(A, "fault", 10, (n) -> "fault a " + (30 + n % 10) + " 1 1;");
    }

    private interface Statement {
        String of(int n);
    }

    /** The last one that is allowed, and one more, whatever stands behind its first word. */
    private static void limited(String ahead, String word, int limit, Statement statement) {
        StringBuilder most = new StringBuilder(ahead);
        for (int n = 0; n < limit; n++) {
            good(most.toString(), n + (ahead.isEmpty() ? 0 : 1));
            most.append(statement.of(n));
        }
        good(most.toString(), limit + (ahead.isEmpty() ? 0 : 1));
        errorAt(most + "|" + statement.of(limit), COUNT);
        errorAt(most + " \n |" + statement.of(limit) + "x", COUNT);
        errorAt(most + "|" + word + " toolong 99999;", COUNT);
        errorAt(most + "|" + word, COUNT);
        errorAt(most + "|" + word + "!", COUNT);
        errorAt(most + "|" + word + "x;", SYNTAX);
    }

    private static void countsStartAgain() {
        check.about("a ninth command of a turn");
        String eight = "do a put 1 1;".repeat(8);
        good(A + eight + "seal;" + eight + "seal;" + eight, 27);
        errorAt(A + eight + "seal;" + eight + "|do a put 1 1;", COUNT);
        errorAt(A + "seal;" + eight + "|do a put 1 1;", COUNT);
        good(A + "seal;".repeat(40) + eight, 49);
        errorAt(A + "seal;".repeat(40) + eight + "|do a put 1 1;", COUNT);
        good(A + "do a put 1 1;seal;".repeat(40), 81);
        // the next text begins anew
        LockstepRoom x = new LockstepRoom();
        for (int n = 0; n < 3; n++) {
            check.due("six members", Check.load(x, "member a 1;member b 1;member c 1;member d 1;member e 1;member f 1;" + "do a put 1 1;".repeat(8)), 14);
            check.due("forty seals", Check.load(x, A + "seal;".repeat(40) + "fault a 1 1 1;".repeat(10)), 51);
        }
    }

    private static void numberOfStatements() {
        check.about("Returns the number of statements");
        good("start 1;", 1);
        good("start 1;set lag 1;", 2);
        good("start 1;set lag 1;set quorum 1;member a 1;do a put 1 1;fault a 1 1 1;seal;", 7);
        String most = "member a1;" + "do a put0 0;seal;".repeat(40) + "fault a0 0 1;".repeat(10);
        good(most, 91);
        LockstepRoom x = Check.loaded(most);
        check.due("sealed", x.count(1), 40);
        check.due("faults", x.count(3), 10);
    }
}
