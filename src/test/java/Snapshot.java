/**
 * All that can be asked of a room, as one text: two rooms with the same text are the same for every caller. An object
 * is used for 512 calls at most, so each group of questions goes to a room of its own, made by the same recipe (which
 * may make some hundred calls itself).
 */
final class Snapshot {
    interface Recipe {
        LockstepRoom make();
    }

    /** A call that is made behind a recipe. */
    interface Step {
        long make(LockstepRoom room);
    }

    private static final int TURNS = 40;
    private static final int TURNS_AT_A_TIME = 4;

    private Snapshot() {
    }

    /** The recipe with one more call behind it. */
    static Recipe then(Recipe recipe, Step step) {
        return () -> {
            LockstepRoom room = recipe.make();
            step.make(room);
            return room;
        };
    }

    /** Buffers and error position, too, and each state that undo would bring back. */
    static String of(Recipe recipe) {
        StringBuilder text = new StringBuilder(room(recipe));
        int depth = recipe.make().undoCount();
        for (int back = 1; back <= depth; back++) {
            text.append("\nback ").append(back).append(": ").append(room(undone(recipe, back)));
        }
        return text.append(buffers(recipe.make())).toString();
    }

    /** As of, without the output buffer and the error position, which undo leaves as they are. */
    static String room(Recipe recipe) {
        StringBuilder text = new StringBuilder();
        numbers(text, recipe.make());
        for (int first = 0; first <= TURNS; first += TURNS_AT_A_TIME) {
            turns(text, recipe.make(), first);
        }
        openTurn(text, recipe.make());
        int members = recipe.make().count(0);
        for (int m = 0; m < members; m++) {
            member(text, recipe.make(), m);
            pairs(text, recipe.make(), m, members);
        }
        return text.toString();
    }

    private static Recipe undone(Recipe recipe, int times) {
        return () -> {
            LockstepRoom room = recipe.make();
            for (int n = 0; n < times; n++) {
                room.undo();
            }
            return room;
        };
    }

    private static void add(StringBuilder text, long number) {
        text.append(' ').append(number);
    }

    private static void numbers(StringBuilder text, LockstepRoom x) {
        for (int what = 0; what < 4; what++) {
            add(text, x.count(what));
        }
        add(text, x.undoCount());
        add(text, x.getSetting(LockstepRoom.LAG));
        add(text, x.getSetting(LockstepRoom.QUORUM));
        for (int f = 0; f < x.count(3); f++) {
            text.append(" fault");
            for (int what = 0; what < 4; what++) {
                add(text, x.faultNumber(f, what));
            }
        }
        text.append(" winners");
        for (int turn = 0; turn <= TURNS; turn++) {
            add(text, x.winner(turn));
        }
        text.append(" all");
        add(text, x.wrongMembers());
        add(text, x.trueMembers());
        add(text, x.reached(false));
        add(text, x.reached(true));
        text.append(' ').append(x.meanTurns());
    }

    private static void turns(StringBuilder text, LockstepRoom x, int first) {
        for (int turn = first; turn < first + TURNS_AT_A_TIME; turn++) {
            text.append("\nturn");
            for (int cell = 0; cell < 16; cell++) {
                add(text, x.truth(turn, cell));
            }
            for (int k = 0; turn < x.count(1) && k < x.commandCount(turn); k++) {
                text.append(" command");
                for (int what = 0; what < 4; what++) {
                    add(text, x.command(turn, k, what));
                }
            }
        }
    }

    /** The commands of the open turn can be asked for when it is sealed. */
    private static void openTurn(StringBuilder text, LockstepRoom x) {
        int turn = x.seal() - 1;
        text.append("\nopen turn");
        for (int k = 0; turn >= 0 && k < x.commandCount(turn); k++) {
            for (int what = 0; what < 4; what++) {
                add(text, x.command(turn, k, what));
            }
        }
    }

    private static void member(StringBuilder text, LockstepRoom x, int m) {
        text.append("\nmember");
        for (int what = 0; what < 6; what++) {
            add(text, x.memberNumber(m, what));
        }
        for (int cell = 0; cell < 16; cell++) {
            text.append(" cell");
            add(text, x.cellOf(m, cell));
            add(text, x.foreseen(m, cell));
            add(text, x.lastWrite(m, cell));
        }
        for (int node = 1; node < 32; node++) {
            add(text, x.checksum(m, node));
        }
        for (int turn = 0; turn <= TURNS; turn++) {
            text.append(" at");
            add(text, x.rootAt(m, turn));
            add(text, x.votes(m, turn));
        }
        text.append(x.isWrong(m) ? " wrong" : " right");
        add(text, x.donorFor(m));
        add(text, x.whyNot(m));
        add(text, x.mayRun(m));
    }

    private static void pairs(StringBuilder text, LockstepRoom x, int a, int members) {
        for (int b = 0; b < members; b++) {
            text.append("\npair");
            add(text, x.firstWrongTurn(a, b));
            add(text, x.halvedTurn(a, b));
            text.append(x.isHalvingRight(a, b) ? " right" : " wrong");
            add(text, x.firstWrongCell(a, b));
            add(text, x.wrongCells(a, b));
            add(text, x.comparisons(a, b));
        }
        int length = x.write(a);
        for (int k = 0; k < length; k++) {
            text.append((char) x.outputAt(k));
        }
    }

    private static String buffers(LockstepRoom x) {
        StringBuilder text = new StringBuilder("\nbuffers ").append(x.errorPosition()).append(' ');
        for (int k = 0; x.outputAt(k) != LockstepRoom.NOT_FOUND; k++) {
            text.append((char) x.outputAt(k));
        }
        add(text, x.load(901));
        int size = x.feed(1, 2, 3, 4, 5);
        add(text, size);
        add(text, x.load(Math.max(0, size - 20)));
        add(text, x.errorPosition());
        for (int what = 0; what < 4; what++) {
            add(text, x.count(what));
        }
        return text.toString();
    }
}
