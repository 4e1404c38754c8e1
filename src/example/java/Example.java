/** Three members execute two turns; a fault makes one of them part from the others, and it is found and healed. */
public final class Example {
    public static void main(String[] args) {
        LockstepRoom room = new LockstepRoom();
        int statements = load(room, "start 3 4; member ann 2; member ben 2; member cid 1;"
                + " do ben sum 0 1; do ann put 2 9; seal; do cid mul 2 0; seal; fault ben 0 5 70;");
        System.out.println("statements: " + statements);
        System.out.println("turns executed by tick: " + room.tick());
        System.out.println("turns executed by cid: " + room.run(room.memberNamed(letters("cid")), 1));

        int ben = room.memberNamed(letters("ben"));
        System.out.println(written(room, ben));
        System.out.println("ben is wrong: " + room.isWrong(ben));
        System.out.println("he parts from ann at turns: " + room.halvedTurn(0, ben));
        System.out.println("first in cell: " + room.firstWrongCell(0, ben));
        System.out.println("his donor: " + room.donorFor(ben));
        System.out.println("cells that healing copies: " + room.heal(ben));
        System.out.println(written(room, ben));
        System.out.println("changes left after undo: " + room.undo());
        System.out.println(written(room, ben));

        int error = load(room, "member ann 5;");
        System.out.println("range error: " + (error == LockstepRoom.RANGE_ERROR) + ", at " + room.errorPosition());
    }

    /** A text goes in by 20 bytes a call; what fills the last call up is not read, as load is told the length. */
    private static int load(LockstepRoom room, String text) {
        for (int at = 0; at < text.length(); at += 20) {
            room.feed(four(text, at), four(text, at + 4), four(text, at + 8), four(text, at + 12), four(text, at + 16));
        }
        return room.load(text.length());
    }

    private static int four(String text, int at) {
        int four = 0;
        for (int k = at; k < at + 4; k++) {
            four = four << 8 | (k < text.length() ? text.charAt(k) : ' ');
        }
        return four;
    }

    /** A name as memberNamed takes it: six groups of 5 bits. */
    private static int letters(String name) {
        int letters = 0;
        for (int k = 0; k < 6; k++) {
            letters = letters << 5 | (k < name.length() ? name.charAt(k) - 'a' + 1 : 0);
        }
        return letters;
    }

    private static String written(LockstepRoom room, int member) {
        StringBuilder text = new StringBuilder();
        int length = room.write(member);
        for (int k = 0; k < length; k++) {
            text.append((char) room.outputAt(k));
        }
        return text.toString();
    }
}
