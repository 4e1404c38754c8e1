import java.nio.charset.StandardCharsets;
import java.util.Arrays;

/** Counts and prints the answers that are not as due; feeds texts. */
final class Check {
    interface Call {
        long answer();
    }

    private int wrong = 0;
    private int looked = 0;
    private String sentence = "";

    /** The sentence of the document that the next answers are about: it is printed with each one that is not as due. */
    void about(String newSentence) {
        sentence = "[" + newSentence + "] ";
    }

    private void tell(String call, Object got, Object want) {
        wrong++;
        System.out.println(sentence + call + " answered " + got + ", due is " + want);
    }

    void due(String call, long got, long want) {
        looked++;
        if (got != want) {
            tell(call, got, want);
        }
    }

    void due(String call, boolean got, boolean want) {
        due(call, got ? 1 : 0, want ? 1 : 0);
    }

    void due(String call, double got, double want) {
        looked++;
        if (Double.compare(got, want) != 0) {
            tell(call, got, want);
        }
    }

    void due(String call, String got, String want) {
        looked++;
        if (!got.equals(want)) {
            tell(call, got, want);
        }
    }

    /** The call must throw just an IndexOutOfBoundsException, and not one that the machine threw. */
    void noIndex(String call, Call made) {
        looked++;
        try {
            long got = made.answer();
            tell(call, got, "an IndexOutOfBoundsException");
        } catch (RuntimeException e) {
            if (e.getClass() != IndexOutOfBoundsException.class) {
                tell(call, e, "an IndexOutOfBoundsException");
            }
        }
    }

    void noMember(String call, java.util.function.IntToLongFunction made, int count) {
        for (int bad : new int[] {-1, count, 6, Integer.MIN_VALUE, Integer.MAX_VALUE}) {
            if (bad < 0 || bad >= count) {
                noIndex(call + " with member " + bad, () -> made.applyAsLong(bad));
            }
        }
    }

    void finish() {
        System.out.println(looked + " answers, " + wrong + " not as due");
        if (wrong != 0 || looked == 0) {
            System.exit(1);
        }
    }

    /** Feeds a text whose characters are 0 to 255; what fills the last 20 bytes is no blank, so that it is seen if read. */
    static int feed(LockstepRoom room, String text) {
        byte[] bytes = text.getBytes(StandardCharsets.ISO_8859_1);
        int size = 0;
        for (int at = 0; at < bytes.length; at += 20) {
            byte[] part = new byte[20];
            Arrays.fill(part, (byte) '#');
            System.arraycopy(bytes, at, part, 0, Math.min(20, bytes.length - at));
            size = room.feed(four(part, 0), four(part, 4), four(part, 8), four(part, 12), four(part, 16));
        }
        return size;
    }

    private static int four(byte[] bytes, int at) {
        return (bytes[at] & 255) << 24 | (bytes[at + 1] & 255) << 16 | (bytes[at + 2] & 255) << 8 | bytes[at + 3] & 255;
    }

    static int load(LockstepRoom room, String text) {
        feed(room, text);
        return room.load(text.length());
    }

    static LockstepRoom loaded(String text) {
        LockstepRoom room = new LockstepRoom();
        int answer = load(room, text);
        if (answer < 0) {
            throw new IllegalStateException(text + ": " + answer + " at " + room.errorPosition());
        }
        return room;
    }

    static String written(LockstepRoom room, int member) {
        int length = room.write(member);
        StringBuilder text = new StringBuilder();
        for (int k = 0; k < length; k++) {
            text.append((char) room.outputAt(k));
        }
        return text.toString();
    }

    static int letters(String name) {
        int letters = 0;
        for (int k = 0; k < 6; k++) {
            letters = letters << 5 | (k < name.length() ? name.charAt(k) - 'a' + 1 : 0);
        }
        return letters;
    }
}
