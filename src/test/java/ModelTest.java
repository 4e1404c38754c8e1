import java.nio.charset.StandardCharsets;
import java.util.Map;
import java.util.Random;
import java.util.TreeMap;
import java.util.function.DoubleSupplier;

/** Long runs of calls, the same ones on a LockstepRoom and on a PlainRoom; the seeds are fixed, so a run can be had again. */
public final class ModelTest {
    private static final int RUNS = 1200;
    private static final int CALLS = 512;

    private final Random random;
    private final int run;
    private final StringBuilder told = new StringBuilder();
    private final LockstepRoom x = new LockstepRoom();
    private final PlainRoom y = new PlainRoom();
    private int calls = 0;
    private static final Map<String, Integer> met = new TreeMap<>();

    private ModelTest(int run) {
        this.run = run;
        random = new Random(run);
    }

    public static void main(String[] args) {
        for (int run = 0; run < RUNS; run++) {
            new ModelTest(run).go();
        }
        mustHaveMet("heal > 0", "healAll > 0", "healAll -1", "join > 0", "join -4", "join -3", "leave > 0", "give -3", "give -4", "seal -3",
            "fault -3", "fault -4", "undo > 0", "undo -1", "load > 0", "load -11", "load -12", "load -13", "load -14", "load -15", "load -2", "feed -3",
            "isHalvingRight 0", "isHalvingRight 1", "firstWrongCell -4", "firstWrongCell > 0", "whyNot 0", "whyNot 1", "whyNot 2", "whyNot 3",
            "whyNot 4", "run 0", "run > 0", "tick 0", "votes -1", "winner -1", "command -1", "command -2", "memberNumber -2", "rootAt -1",
            "rootAt throws", "halvedTurn -1", "lastWrite -1", "truth -1");
        if (args.length > 0) System.out.println(met);
        System.out.println("ModelTest: " + RUNS + " runs agree");
    }

    private static void mustHaveMet(String... kinds) {
        for (String kind : kinds) {
            if (!met.containsKey(kind)) {
                System.out.println("the runs never met: " + kind);
                System.exit(1);
            }
        }
    }

    private void same(String call, DoubleSupplier mine, DoubleSupplier plain) {
        calls++;
        told.append(call).append('\n');
        double got = answer(mine);
        double want = answer(plain);
        String name = call.substring(0, call.indexOf('('));
        met.merge(name + (Double.isNaN(got) ? " throws" : got > 0 && !name.equals("whyNot") && !name.equals("isHalvingRight") ? " > 0" : " " + (int) got), 1, Integer::sum);
        if (Double.compare(got, want) != 0) {
            System.out.println(told);
            System.out.println("run " + run + ": the last call answered " + got + ", due is " + want);
            System.exit(1);
        }
    }

    private static double answer(DoubleSupplier call) {
        try {
            return call.getAsDouble();
        } catch (RuntimeException e) {
            if (e.getClass() != IndexOutOfBoundsException.class) {
                throw e;
            }
            return Double.NaN;
        }
    }

    private int below(int bound) {
        return random.nextInt(bound);
    }

    /** Mostly a number of the range, sometimes one just beyond it or far from it. */
    private int about(int least, int greatest) {
        switch (below(40)) {
            case 0:
                return least - 1;
            case 1:
                return greatest + 1;
            case 2:
                return below(2) == 0 ? Integer.MIN_VALUE : Integer.MAX_VALUE;
            default:
                return least + below(greatest - least + 1);
        }
    }

    private int member() {
        return about(0, Math.max(0, y.w.members.size() - 1));
    }

    private void go() {
        if (below(20) != 0) {
            load(text());
        }
        while (calls < CALLS - 60) {
            if (below(600) == 0) {
                overfeed();
            } else if (below(150) == 0) {
                load(below(2) == 0 ? broken(text()) : text());
            } else if (below(2) == 0) {
                change();
            } else {
                query();
            }
        }
    }

    private void change() {
        boolean givesMuch = run % 8 == 0 && below(2) == 0;
        int kind = givesMuch ? 14 + below(17) : below(44);
        if (kind < 7) {
            same("tick()", x::tick, y::tick);
        } else if (kind < 14) {
            int m = member(), n = below(3) == 0 ? about(1, 40) : about(1, 4);
            same("run(" + m + ", " + n + ")", () -> x.run(m, n), () -> y.run(m, n));
        } else if (kind < 22) {
            int m = member(), s = about(0, 5), c = about(0, 15), o = s < 2 ? about(0, 9999) : about(0, 15);
            same("give(" + m + ", " + s + ", " + c + ", " + o + ")", () -> x.give(m, s, c, o), () -> y.give(m, s, c, o));
        } else if (kind < 28) {
            same("seal()", x::seal, y::seal);
        } else if (kind < 31) {
            int m = member(), t = about(0, below(2) == 0 ? 39 : Math.min(39, y.w.turns.size() + 1)), c = about(0, 15), a = about(1, 9999);
            same("fault(" + m + ", " + t + ", " + c + ", " + a + ")", () -> x.fault(m, t, c, a), () -> y.fault(m, t, c, a));
        } else if (kind < 34) {
            int m = member();
            same("heal(" + m + ")", () -> x.heal(m), () -> y.heal(m));
        } else if (kind < 35) {
            same("healAll()", x::healAll, y::healAll);
        } else if (kind < 37) {
            int p = about(1, 4);
            same("join(" + p + ")", () -> x.join(p), () -> y.join(p));
        } else if (kind < 38) {
            int m = below(2) == 0 ? member() : 9;
            same("leave(" + m + ")", () -> x.leave(m), () -> y.leave(m));
        } else if (kind < 40) {
            int s = about(0, 1), v = s == 0 ? about(1, below(2) == 0 ? 40 : 6) : about(1, below(3) == 0 ? 6 : 2);
            same("setSetting(" + s + ", " + v + ")", () -> x.setSetting(s, v), () -> y.setSetting(s, v));
        } else {
            for (int n = 1 + below(below(10) == 0 ? 12 : 3); n > 0; n--) {
                same("undo()", x::undo, y::undo);
            }
        }
    }

    private void query() {
        int m = member(), a = member(), b = member(), c = about(0, 15), t = about(0, y.w.turns.size()), k = about(0, 8), w = about(0, 3);
        switch (below(33)) {
            case 0 -> same("count(" + w + ")", () -> x.count(w), () -> y.count(w));
            case 1 -> same("undoCount()", x::undoCount, y.before::size);
            case 2 -> name();
            case 3 -> same("memberNumber(" + m + ", " + (w + k / 4) + ")", () -> x.memberNumber(m, w + k / 4), () -> y.memberNumber(m, w + k / 4));
            case 4 -> same("getSetting(" + w + ")", () -> x.getSetting(w), () -> y.getSetting(w));
            case 5 -> same("cellOf(" + m + ", " + c + ")", () -> x.cellOf(m, c), () -> y.cellOf(m, c));
            case 6 -> same("commandCount(" + t + ")", () -> x.commandCount(t), () -> y.commandCount(t));
            case 7 -> same("command(" + t + ", " + k + ", " + w + ")", () -> x.command(t, k, w), () -> y.command(t, k, w));
            case 8 -> same("faultNumber(" + k + ", " + w + ")", () -> x.faultNumber(k, w), () -> y.faultNumber(k, w));
            case 9 -> {
                int node = about(1, 31);
                same("checksum(" + m + ", " + node + ")", () -> x.checksum(m, node), () -> y.checksum(m, node));
            }
            case 10 -> same("rootAt(" + m + ", " + t + ")", () -> x.rootAt(m, t), () -> y.rootAt(m, t));
            case 11 -> same("firstWrongTurn(" + a + ", " + b + ")", () -> x.firstWrongTurn(a, b), () -> y.firstWrongTurn(a, b));
            case 12 -> same("halvedTurn(" + a + ", " + b + ")", () -> x.halvedTurn(a, b), () -> y.halvedTurn(a, b));
            case 13 -> same("isHalvingRight(" + a + ", " + b + ")", () -> x.isHalvingRight(a, b) ? 1 : 0, () -> y.isHalvingRight(a, b) ? 1 : 0);
            case 14 -> same("firstWrongCell(" + a + ", " + b + ")", () -> x.firstWrongCell(a, b), () -> y.firstWrongCell(a, b));
            case 15 -> same("wrongCells(" + a + ", " + b + ")", () -> x.wrongCells(a, b), () -> y.wrongCells(a, b));
            case 16 -> same("comparisons(" + a + ", " + b + ")", () -> x.comparisons(a, b), () -> y.comparisons(a, b));
            case 17 -> same("votes(" + m + ", " + t + ")", () -> x.votes(m, t), () -> y.votes(m, t));
            case 18 -> same("winner(" + t + ")", () -> x.winner(t), () -> y.winner(t));
            case 19 -> same("isWrong(" + m + ")", () -> x.isWrong(m) ? 1 : 0, () -> y.isWrong(m) ? 1 : 0);
            case 20 -> same("wrongMembers()", x::wrongMembers, y::wrongMembers);
            case 21 -> same("donorFor(" + m + ")", () -> x.donorFor(m), () -> y.donorFor(m));
            case 22 -> same("whyNot(" + m + ")", () -> x.whyNot(m), () -> y.whyNot(m));
            case 23 -> same("reached(true)", () -> x.reached(true), () -> y.reached(true));
            case 24 -> same("reached(false)", () -> x.reached(false), () -> y.reached(false));
            case 25 -> same("mayRun(" + m + ")", () -> x.mayRun(m), () -> y.mayRun(m));
            case 26 -> same("meanTurns()", x::meanTurns, y::meanTurns);
            case 27 -> same("truth(" + t + ", " + c + ")", () -> x.truth(t, c), () -> y.truth(t, c));
            case 28 -> same("trueMembers()", x::trueMembers, y::trueMembers);
            case 29 -> same("foreseen(" + m + ", " + c + ")", () -> x.foreseen(m, c), () -> y.foreseen(m, c));
            case 30 -> same("lastWrite(" + m + ", " + c + ")", () -> x.lastWrite(m, c), () -> y.lastWrite(m, c));
            case 31 -> same("write(" + m + ")", () -> x.write(m), () -> y.write(m));
            default -> {
                int index = about(0, 90);
                same("outputAt(" + index + ")", () -> x.outputAt(index), () -> y.outputAt(index));
            }
        }
    }

    private void name() {
        int letters = Check.letters(NAMES[below(NAMES.length)]) + (below(8) == 0 ? 1 << below(32) : 0);
        same("memberNamed(" + letters + ")", () -> x.memberNamed(letters), () -> y.memberNamed(letters));
    }

    // texts

    private static final String[] NAMES = {"a", "z", "ann", "ben", "abcdef", "zzzzzz", "seal", "start", "put", ""};
    private static final String[] SORTS = {"put", "add", "copy", "sum", "swap", "mul"};
    private int members;

    private void load(String text) {
        byte[] bytes = text.getBytes(StandardCharsets.ISO_8859_1);
        for (int at = 0; at < bytes.length && calls < CALLS; at += 20) {
            int[] f = new int[5];
            for (int k = 0; k < 20; k++) {
                f[k / 4] = f[k / 4] << 8 | (at + k < bytes.length ? bytes[at + k] & 255 : ' ');
            }
            same("feed(" + f[0] + ", " + f[1] + ", " + f[2] + ", " + f[3] + ", " + f[4] + ")", () -> x.feed(f[0], f[1], f[2], f[3], f[4]), () -> y.feed(f));
        }
        if (below(12) == 0) {
            int bad = below(2) == 0 ? -1 - below(9) : y.input.length() + 1 + below(9);
            same("load(" + bad + ")", () -> x.load(bad), () -> y.load(bad));
        }
        int length = Math.min(text.length(), y.input.length());
        same("load(" + length + ")", () -> x.load(length), () -> y.load(length));
        same("errorPosition()", x::errorPosition, () -> y.errorAt);
    }

    private void overfeed() {
        int full = 900 / 20 + 1;
        for (int n = 0; n < full && calls < CALLS; n++) {
            int f = below(2) == 0 ? random.nextInt() : 0x3b3b3b20;
            same("feed(" + f + ", 1, 2, 3, 4)", () -> x.feed(f, 1, 2, 3, 4), () -> y.feed(f, 1, 2, 3, 4));
        }
    }

    private String text() {
        StringBuilder text = new StringBuilder();
        members = 0;
        int most = 2 + below(5);
        boolean full = below(12) == 0;
        int statements = full ? 60 + below(30) : 4 + below(25);
        for (int n = 0; n < statements && text.length() < 860; n++) {
            statement(text, members < most && n < 7 || full && below(30) == 0 ? 0 : full ? 1 + below(4) * below(2) : 1 + below(12));
            text.append(below(30) == 0 ? " ;\n " : ";");
        }
        if (below(12) == 0 && text.length() < 680) {
            for (int n = below(10) + 28; n > 0; n--) {
                text.append("seal;");
            }
        }
        return text.toString();
    }

    private void statement(StringBuilder text, int kind) {
        String name = members == 0 ? "a" : NAMES[below(Math.min(members, 9))];
        if (kind == 0) {
            text.append("member ").append(NAMES[Math.min(members, 8)]).append(' ').append(1 + below(4));
            members++;
        } else if (kind < 4) {
            text.append("seal");
        } else if (kind < 9) {
            int s = below(6);
            text.append("do ").append(name).append(' ').append(SORTS[s]).append(below(3) == 0 ? "" : " ").append(below(16)).append(' ').append(s < 2 ? below(10000) : below(16));
        } else if (kind < 11) {
            text.append("fault ").append(name).append(' ').append(below(12)).append(' ').append(below(16)).append(" 00").append(1 + below(9999));
        } else if (kind == 11 && text.indexOf("start ") < 0) {
            text.append("start");
            for (int n = 1 + below(16); n > 0; n--) {
                text.append(' ').append(below(10000));
            }
        } else if (text.indexOf("quorum") < 0) {
            text.append("set quorum ").append(1 + below(3));
        } else if (text.indexOf("lag") < 0) {
            text.append("set lag ").append(1 + below(40));
        } else {
            text.append("seal");
        }
    }

    /** The text with a few changes that are likely to make it wrong. */
    private String broken(String text) {
        StringBuilder b = new StringBuilder(text);
        String[] odd = {";", "x", "10000", "16", "0", " ", "start 1;", "member a 1;", "start 1 2 3 4 5 6 7 8 9 1 2 3 4 5 6 7 8;", "set lag 3;set lag 3;",
            "do nobody put 1 1;", "99999999999999999999", "\t", "A", "\u00e9", "abcdefg", "seal;", "fault a 40 1 1;", "set quorum 7;", "\n", "put", "-1"};
        for (int n = 1 + below(2); n > 0 && b.length() > 0; n--) {
            int at = below(b.length());
            if (below(3) == 0) {
                b.delete(at, Math.min(b.length(), at + 1 + below(4)));
            } else {
                b.insert(below(2) == 0 ? at : b.lastIndexOf(";", at) + 1, odd[below(odd.length)]);
            }
        }
        return b.substring(0, Math.min(b.length(), 900));
    }
}
