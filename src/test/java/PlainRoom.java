import java.util.ArrayList;
import java.util.HashMap;
import java.util.List;
import java.util.Map;
import java.util.TreeMap;
import java.util.TreeSet;
import java.util.regex.Matcher;
import java.util.regex.Pattern;

/**
 * The document once more, written without a thought of cost and with nothing of LockstepRoom: maps, lists, copies of
 * the whole room ahead of each change. ModelTest compares the two.
 */
final class PlainRoom {
    static final class Member implements Cloneable {
        String name;
        int pace;
        int executed;
        boolean active = true;
        int gave;
        int got;
        int healed;
        List<Integer> cells = new ArrayList<>();
        TreeMap<Integer, Integer> past = new TreeMap<>();

        Member copy() {
            Member m = new Member();
            m.name = name;
            m.pace = pace;
            m.executed = executed;
            m.active = active;
            m.gave = gave;
            m.got = got;
            m.healed = healed;
            m.cells = new ArrayList<>(cells);
            m.past = new TreeMap<>(past);
            return m;
        }
    }

    record Command(int author, int sort, int cell, int operand) {}

    record Fault(int member, int turn, int cell, int amount) {}

    /** An error of load. */
    @SuppressWarnings("serial")
    static final class Bad extends RuntimeException {
        final int code;
        final int at;

        Bad(int code, int at) {
            this.code = code;
            this.at = at;
        }
    }

    static final class World {
        List<Integer> start = zeros();
        List<Member> members = new ArrayList<>();
        List<List<Command>> turns = new ArrayList<>();
        List<Command> open = new ArrayList<>();
        List<Fault> faults = new ArrayList<>();
        int[] settings = {40, 2};

        World copy() {
            World w = new World();
            w.start = new ArrayList<>(start);
            members.forEach(m -> w.members.add(m.copy()));
            w.turns = new ArrayList<>(turns);
            w.open = new ArrayList<>(open);
            w.faults = new ArrayList<>(faults);
            w.settings = settings.clone();
            return w;
        }
    }

    World w = new World();
    List<World> before = new ArrayList<>();
    StringBuilder input = new StringBuilder();
    String output = "";
    int errorAt = -1;

    static List<Integer> zeros() {
        List<Integer> list = new ArrayList<>();
        for (int c = 0; c < 16; c++) {
            list.add(0);
        }
        return list;
    }

    private void change() {
        before.add(w.copy());
        if (before.size() > 10) {
            before.remove(0);
        }
    }

    private Member at(int m) {
        if (m < 0 || m >= w.members.size()) {
            throw new IndexOutOfBoundsException();
        }
        return w.members.get(m);
    }

    private boolean none(int m) {
        return m < 0 || m >= w.members.size();
    }

    private static void cellIndex(int c) {
        if (c < 0 || c > 15) {
            throw new IndexOutOfBoundsException();
        }
    }

    private List<Command> turnAt(int t) {
        if (t < 0 || t >= w.turns.size()) {
            throw new IndexOutOfBoundsException();
        }
        return w.turns.get(t);
    }

    // checksums

    static long sum(List<Integer> cells, int node) {
        if (node >= 16) {
            return 40503L * cells.get(node - 16) + 977L * (node - 16) + 1;
        }
        return (69069L * sum(cells, 2 * node) + (30011L + 2L * node) * sum(cells, 2 * node + 1) + node) % 2147483647L;
    }

    private int looked;

    private void descend(List<Integer> a, List<Integer> b, int node, TreeSet<Integer> found) {
        looked++;
        if (sum(a, node) == sum(b, node)) {
            return;
        }
        if (node >= 16) {
            found.add(node - 16);
            return;
        }
        descend(a, b, 2 * node, found);
        descend(a, b, 2 * node + 1, found);
    }

    private TreeSet<Integer> differing(Member a, Member b) {
        looked = 0;
        TreeSet<Integer> found = new TreeSet<>();
        descend(a.cells, b.cells, 1, found);
        return found;
    }

    // turns

    static void apply(List<Integer> cells, Command c) {
        int old = cells.get(c.cell);
        switch (c.sort) {
            case 0 -> cells.set(c.cell, c.operand);
            case 1 -> cells.set(c.cell, (old + c.operand) % 10000);
            case 2 -> cells.set(c.cell, cells.get(c.operand));
            case 3 -> cells.set(c.cell, (old + cells.get(c.operand)) % 10000);
            case 4 -> {
                cells.set(c.cell, cells.get(c.operand));
                cells.set(c.operand, old);
            }
            default -> cells.set(c.cell, old * cells.get(c.operand) % 10000);
        }
    }

    private void step(int m, int turn, List<Integer> cells) {
        w.turns.get(turn).forEach(c -> apply(cells, c));
        for (Fault f : w.faults) {
            if (f.member == m && f.turn == turn) {
                cells.set(f.cell, (cells.get(f.cell) + f.amount) % 10000);
            }
        }
    }

    private void execute(int m, int turns) {
        Member member = at(m);
        for (int n = 0; n < turns; n++) {
            int turn = member.executed;
            step(m, turn, member.cells);
            w.faults.removeIf(f -> f.member == m && f.turn == turn);
            member.executed++;
            member.past.put(member.executed, (int) sum(member.cells, 1));
        }
    }

    int reached(boolean greatest) {
        var turns = w.members.stream().filter(m -> m.active).mapToInt(m -> m.executed);
        return (greatest ? turns.max() : turns.min()).orElse(-1);
    }

    private int allowed(Member m, int least) {
        int may = 0;
        for (int to = m.executed + 1; to <= w.turns.size() && to <= least + w.settings[0]; to++) {
            may++;
        }
        return m.active ? may : 0;
    }

    int mayRun(int m) {
        return allowed(at(m), reached(false));
    }

    double meanTurns() {
        return w.members.stream().filter(m -> m.active).mapToInt(m -> m.executed).average().orElse(0);
    }

    private List<Integer> truthBehind(int turns) {
        List<Integer> cells = new ArrayList<>(w.start);
        for (int t = 0; t < turns; t++) {
            w.turns.get(t).forEach(c -> apply(cells, c));
        }
        return cells;
    }

    int truth(int turn, int cell) {
        cellIndex(cell);
        return turn < 0 || turn > w.turns.size() ? -1 : truthBehind(turn).get(cell);
    }

    int trueMembers() {
        int set = 0;
        for (int m = 0; m < w.members.size(); m++) {
            if (at(m).cells.equals(truthBehind(at(m).executed))) {
                set += 1 << m;
            }
        }
        return set;
    }

    int foreseen(int m, int cell) {
        List<Integer> cells = new ArrayList<>(at(m).cells);
        cellIndex(cell);
        for (int t = at(m).executed; t < w.turns.size(); t++) {
            step(m, t, cells);
        }
        return cells.get(cell);
    }

    int lastWrite(int m, int cell) {
        int last = -1;
        int executed = at(m).executed;
        cellIndex(cell);
        for (int t = 0; t < executed; t++) {
            for (Command c : w.turns.get(t)) {
                if (c.cell == cell || c.sort == 4 && c.operand == cell) {
                    last = t;
                }
            }
        }
        return last;
    }

    // votes

    private List<Integer> winners(int turn) {
        Map<Integer, List<Integer>> groups = new HashMap<>();
        for (int m = 0; m < w.members.size(); m++) {
            if (at(m).active && at(m).past.containsKey(turn)) {
                groups.computeIfAbsent(at(m).past.get(turn), k -> new ArrayList<>()).add(m);
            }
        }
        List<Integer> best = List.of();
        for (List<Integer> g : groups.values()) {
            if (g.size() > best.size() || g.size() == best.size() && g.get(0) < best.get(0)) {
                best = g;
            }
        }
        return best.size() < w.settings[1] ? List.of() : best;
    }

    int votes(int m, int turn) {
        Member member = at(m);
        if (!member.past.containsKey(turn)) {
            return -1;
        }
        return (int) w.members.stream().filter(o -> o.active && member.past.get(turn).equals(o.past.get(turn))).count();
    }

    int winner(int turn) {
        return winners(turn).isEmpty() ? -1 : winners(turn).get(0);
    }

    boolean isWrong(int m) {
        List<Integer> best = winners(at(m).executed);
        return at(m).active && !best.isEmpty() && !best.contains(m);
    }

    int wrongMembers() {
        int set = 0;
        for (int m = 0; m < w.members.size(); m++) {
            set |= isWrong(m) ? 1 << m : 0;
        }
        return set;
    }

    private int donor(int turns, int receiver) {
        int best = -1;
        for (int m : winners(turns)) {
            if (m != receiver && at(m).executed == turns && (best < 0 || at(m).gave < at(best).gave)) {
                best = m;
            }
        }
        return best;
    }

    int donorFor(int m) {
        return donor(at(m).executed, m);
    }

    int whyNot(int m) {
        Member member = at(m);
        if (!member.active) {
            return 1;
        }
        if (winner(member.executed) == -1) {
            return 2;
        }
        return !isWrong(m) ? 3 : donorFor(m) == -1 ? 4 : 0;
    }

    private int healNow(int m) {
        Member to = at(m);
        Member from = at(donorFor(m));
        TreeSet<Integer> cells = differing(from, to);
        cells.forEach(c -> to.cells.set(c, from.cells.get(c)));
        from.gave += cells.size();
        to.got += cells.size();
        to.healed++;
        to.past.put(to.executed, from.past.get(to.executed));
        return cells.size();
    }

    // the other changes

    int give(int author, int sort, int cell, int operand) {
        if (none(author)) {
            return -1;
        }
        if (sort < 0 || sort > 5 || cell < 0 || cell > 15 || operand < 0 || operand > (sort < 2 ? 9999 : 15)) {
            return -2;
        }
        if (!at(author).active) {
            return -4;
        }
        if (w.open.size() == 8) {
            return -3;
        }
        change();
        w.open.add(new Command(author, sort, cell, operand));
        return w.open.size();
    }

    private static void close(World w) {
        List<Command> order = new ArrayList<>(w.open);
        order.sort((a, b) -> a.author - b.author);
        w.turns.add(order);
        w.open = new ArrayList<>();
    }

    int seal() {
        if (w.turns.size() == 40) {
            return -3;
        }
        change();
        close(w);
        return w.turns.size();
    }

    int run(int m, int turns) {
        if (none(m)) {
            return -1;
        }
        if (turns < 1 || turns > 40) {
            return -2;
        }
        if (!at(m).active) {
            return -4;
        }
        int n = Math.min(turns, mayRun(m));
        change();
        execute(m, n);
        return n;
    }

    int tick() {
        change();
        int least = reached(false);
        int all = 0;
        for (int m = 0; m < w.members.size(); m++) {
            int n = Math.min(at(m).pace, allowed(at(m), least));
            execute(m, n);
            all += n;
        }
        return all;
    }

    int fault(int m, int turn, int cell, int amount) {
        if (none(m)) {
            return -1;
        }
        if (turn < 0 || turn > 39 || cell < 0 || cell > 15 || amount < 1 || amount > 9999) {
            return -2;
        }
        if (!at(m).active || at(m).executed > turn) {
            return -4;
        }
        if (w.faults.size() == 10) {
            return -3;
        }
        change();
        w.faults.add(new Fault(m, turn, cell, amount));
        return w.faults.size();
    }

    int heal(int m) {
        if (none(m)) {
            return -1;
        }
        if (whyNot(m) != 0) {
            return -4;
        }
        change();
        return healNow(m);
    }

    int healAll() {
        World old = w.copy();
        int n = 0;
        for (int m = 0; m < w.members.size(); m++) {
            if (whyNot(m) == 0) {
                healNow(m);
                n++;
            }
        }
        if (n == 0) {
            return -1;
        }
        before.add(old);
        if (before.size() > 10) {
            before.remove(0);
        }
        return n;
    }

    int join(int pace) {
        if (pace < 1 || pace > 4) {
            return -2;
        }
        if (w.members.size() == 6) {
            return -3;
        }
        int turns = reached(false);
        int from = donor(turns, -1);
        if (from == -1) {
            return -4;
        }
        change();
        Member m = new Member();
        m.pace = pace;
        m.executed = turns;
        m.cells = new ArrayList<>(at(from).cells);
        m.past.put(turns, at(from).past.get(turns));
        m.got = 16;
        at(from).gave += 16;
        w.members.add(m);
        return w.members.size() - 1;
    }

    int leave(int m) {
        if (none(m)) {
            return -1;
        }
        if (!at(m).active) {
            return -4;
        }
        change();
        at(m).active = false;
        w.faults.removeIf(f -> f.member == m);
        return (int) w.members.stream().filter(o -> o.active).count();
    }

    int setSetting(int setting, int value) {
        if (setting < 0 || setting > 1 || value < 1 || value > (setting == 0 ? 40 : 6)) {
            return -2;
        }
        change();
        int old = w.settings[setting];
        w.settings[setting] = value;
        return old;
    }

    int undo() {
        if (before.isEmpty()) {
            return -1;
        }
        w = before.remove(before.size() - 1);
        return before.size();
    }

    // queries

    int count(int what) {
        return switch (what) {
            case 0 -> w.members.size();
            case 1 -> w.turns.size();
            case 2 -> w.open.size();
            case 3 -> w.faults.size();
            default -> -2;
        };
    }

    int memberNamed(int letters) {
        for (int m = 0; m < w.members.size(); m++) {
            if (at(m).name != null && Check.letters(at(m).name) == letters) {
                return m;
            }
        }
        return -1;
    }

    int memberNumber(int m, int what) {
        Member member = at(m);
        return switch (what) {
            case 0 -> member.pace;
            case 1 -> member.executed;
            case 2 -> member.active ? 1 : 0;
            case 3 -> member.gave;
            case 4 -> member.got;
            case 5 -> member.healed;
            default -> -2;
        };
    }

    int getSetting(int setting) {
        return setting == 0 || setting == 1 ? w.settings[setting] : -2;
    }

    int cellOf(int m, int cell) {
        at(m);
        cellIndex(cell);
        return at(m).cells.get(cell);
    }

    int commandCount(int turn) {
        return turnAt(turn).size();
    }

    int command(int turn, int k, int what) {
        List<Command> commands = turnAt(turn);
        if (k < 0 || k >= commands.size()) {
            return -1;
        }
        Command c = commands.get(k);
        return switch (what) {
            case 0 -> c.author;
            case 1 -> c.sort;
            case 2 -> c.cell;
            case 3 -> c.operand;
            default -> -2;
        };
    }

    int faultNumber(int fault, int what) {
        if (fault < 0 || fault >= w.faults.size()) {
            throw new IndexOutOfBoundsException();
        }
        Fault f = w.faults.get(fault);
        return switch (what) {
            case 0 -> f.member;
            case 1 -> f.turn;
            case 2 -> f.cell;
            case 3 -> f.amount;
            default -> -2;
        };
    }

    int checksum(int m, int node) {
        Member member = at(m);
        return node < 1 || node > 31 ? -2 : (int) sum(member.cells, node);
    }

    int rootAt(int m, int turn) {
        return at(m).past.getOrDefault(turn, -1);
    }

    private TreeSet<Integer> shared(int a, int b) {
        TreeSet<Integer> both = new TreeSet<>(at(a).past.keySet());
        both.retainAll(at(b).past.keySet());
        return both;
    }

    private boolean differs(int a, int b, int turn) {
        return !at(a).past.get(turn).equals(at(b).past.get(turn));
    }

    int firstWrongTurn(int a, int b) {
        for (int t : shared(a, b)) {
            if (differs(a, b, t)) {
                return t;
            }
        }
        return -1;
    }

    int halvedTurn(int a, int b) {
        TreeSet<Integer> range = shared(a, b);
        if (range.isEmpty() || !differs(a, b, range.last())) {
            return -1;
        }
        while (range.size() > 1) {
            int middle = (range.first() + range.last()) / 2;
            range = new TreeSet<>(differs(a, b, middle) ? range.headSet(middle, true) : range.tailSet(middle, false));
        }
        return range.first();
    }

    boolean isHalvingRight(int a, int b) {
        return halvedTurn(a, b) == firstWrongTurn(a, b);
    }

    int firstWrongCell(int a, int b) {
        if (at(a).executed != at(b).executed) {
            return -4;
        }
        TreeSet<Integer> cells = differing(at(a), at(b));
        return cells.isEmpty() ? -1 : cells.first();
    }

    int wrongCells(int a, int b) {
        return differing(at(a), at(b)).stream().mapToInt(c -> 1 << c).sum();
    }

    int comparisons(int a, int b) {
        differing(at(a), at(b));
        return looked;
    }

    int write(int m) {
        Member member = at(m);
        StringBuilder text = new StringBuilder(member.name == null ? "*" : member.name).append(':');
        member.cells.forEach(c -> text.append(' ').append(c));
        output = text.toString();
        return output.length();
    }

    int outputAt(int index) {
        return index < 0 || index >= output.length() ? -1 : output.charAt(index);
    }

    // load

    int feed(int... fours) {
        if (input.length() > 880) {
            return -3;
        }
        for (int four : fours) {
            input.append((char) (four >> 24 & 255)).append((char) (four >> 16 & 255)).append((char) (four >> 8 & 255)).append((char) (four & 255));
        }
        return input.length();
    }

    int load(int length) {
        if (length < 0 || length > input.length()) {
            return -2;
        }
        String text = input.substring(0, length);
        input.setLength(0);
        errorAt = -1;
        try {
            Reading reading = new Reading(text);
            int statements = reading.all();
            w = reading.world;
            before.clear();
            return statements;
        } catch (Bad bad) {
            errorAt = bad.at;
            return bad.code;
        }
    }

    /** Reads a text by a list of all its tokens. */
    private static final class Reading {
        record Token(String text, int at) {
            boolean isInteger() {
                return text.matches("[0-9]+");
            }

            boolean isName() {
                return text.matches("[a-z]{1,6}");
            }
        }

        final List<Token> tokens = new ArrayList<>();
        final World world = new World();
        int next = 0;

        Reading(String text) {
            Matcher m = Pattern.compile("[a-z]+|[0-9]+|[^ \\n]", Pattern.DOTALL).matcher(text);
            while (m.find()) {
                tokens.add(new Token(m.group(), m.start()));
            }
            tokens.add(new Token("", text.length()));
        }

        Token peek() {
            return tokens.get(next);
        }

        Token word(String... allowed) {
            Token t = peek();
            if (!List.of(allowed).contains(t.text)) {
                throw new Bad(-11, t.at);
            }
            next++;
            return t;
        }

        int integer(int least, int greatest) {
            Token t = peek();
            if (!t.isInteger()) {
                throw new Bad(-11, t.at);
            }
            var value = new java.math.BigInteger(t.text);
            if (value.bitLength() > 30 || value.intValue() < least || value.intValue() > greatest) {
                throw new Bad(-12, t.at);
            }
            next++;
            return value.intValue();
        }

        Token name() {
            Token t = peek();
            if (!t.isName()) {
                throw new Bad(-11, t.at);
            }
            next++;
            return t;
        }

        int find(String name) {
            for (int m = 0; m < world.members.size(); m++) {
                if (world.members.get(m).name.equals(name)) {
                    return m;
                }
            }
            return -1;
        }

        int member() {
            Token t = name();
            int m = find(t.text);
            if (m < 0) {
                throw new Bad(-13, t.at);
            }
            return m;
        }

        static void limit(boolean reached, Token t) {
            if (reached) {
                throw new Bad(-15, t.at);
            }
        }

        int all() {
            int statements = 0;
            TreeSet<String> once = new TreeSet<>();
            while (!peek().text.isEmpty()) {
                Token t = word("start", "member", "do", "seal", "fault", "set");
                switch (t.text) {
                    case "start" -> start(once, t);
                    case "member" -> newMember(t);
                    case "do" -> command(t);
                    case "seal" -> {
                        limit(world.turns.size() == 40, t);
                        close(world);
                    }
                    case "fault" -> {
                        limit(world.faults.size() == 10, t);
                        world.faults.add(new Fault(member(), integer(0, 39), integer(0, 15), integer(1, 9999)));
                    }
                    default -> setting(once);
                }
                word(";");
                statements++;
            }
            for (Member m : world.members) {
                m.cells = new ArrayList<>(world.start);
                m.past.put(0, (int) sum(m.cells, 1));
            }
            return statements;
        }

        void start(TreeSet<String> once, Token t) {
            if (!once.add("start")) {
                throw new Bad(-14, t.at);
            }
            int k = 0;
            do {
                Token number = peek();
                int value = integer(0, 9999);
                limit(k == 16, number);
                world.start.set(k, value);
                k++;
            } while (peek().isInteger());
        }

        void newMember(Token t) {
            limit(world.members.size() == 6, t);
            Token name = name();
            if (find(name.text) >= 0) {
                throw new Bad(-14, name.at);
            }
            Member m = new Member();
            m.name = name.text;
            m.pace = integer(1, 4);
            world.members.add(m);
        }

        void command(Token t) {
            limit(world.open.size() == 8, t);
            int author = member();
            int sort = List.of("put", "add", "copy", "sum", "swap", "mul").indexOf(word("put", "add", "copy", "sum", "swap", "mul").text);
            world.open.add(new Command(author, sort, integer(0, 15), integer(0, sort < 2 ? 9999 : 15)));
        }

        void setting(TreeSet<String> once) {
            Token name = word("lag", "quorum");
            if (!once.add(name.text)) {
                throw new Bad(-14, name.at);
            }
            int setting = name.text.equals("lag") ? 0 : 1;
            world.settings[setting] = integer(1, setting == 0 ? 40 : 6);
        }
    }
}
