import java.util.ArrayDeque;
import java.util.ArrayList;
import java.util.Comparator;
import java.util.Deque;
import java.util.HashSet;
import java.util.List;
import java.util.NoSuchElementException;
import java.util.Set;
import java.util.TreeMap;
import java.util.regex.Matcher;
import java.util.regex.Pattern;

/** The document once more, as slow and as literal as can be: every MOVE is made, every cut is tried. */
final class Model {
    record Question(int kind, int first, int last, int time) { }

    record Asked(int number, Question it) { }

    record Move(int kind, int thing, int question) { }

    private static final class Fault extends RuntimeException {
        private static final long serialVersionUID = 1L;
        final int place;
        final int kind;

        Fault(int place, int kind) {
            this.place = place;
            this.kind = kind;
        }
    }

    /** A WINDOW that keeps what it holds by each MOVE. */
    private final class Window {
        int left = 0;
        int right = -1;
        int now = 0;
        int ends = 0;
        int turns = 0;
        final TreeMap<Integer, Integer> held = new TreeMap<>();

        void hold(int number, int times) {
            int there = held.getOrDefault(number, 0) + times;
            if (there < 0) {
                throw new IllegalStateException("goes, but was not held");
            }
            if (there == 0) {
                held.remove(number);
            } else {
                held.put(number, there);
            }
        }

        Move leftDown(int q) {
            left--;
            hold(number(left, now), 1);
            ends++;
            return new Move(0, left, q);
        }

        Move rightUp(int q) {
            right++;
            hold(number(right, now), 1);
            ends++;
            return new Move(1, right, q);
        }

        Move leftUp(int q) {
            hold(number(left, now), -1);
            left++;
            ends++;
            return new Move(2, left - 1, q);
        }

        Move rightDown(int q) {
            hold(number(right, now), -1);
            right--;
            ends++;
            return new Move(3, right + 1, q);
        }

        Move turn(int step, int q) {
            int change = step > 0 ? now : now - 1;
            int cell = changes.get(change)[0];
            boolean has = left <= cell && cell <= right;
            if (has) {
                hold(number(cell, now), -1);
            }
            now += step;
            turns++;
            if (has) {
                hold(number(cell, now), 1);
            }
            return new Move(step > 0 ? 4 : 5, change, q);
        }

        /** One MOVE on the way to a QUESTION, null as soon as it is there. */
        Move step(Asked to) {
            Question it = to.it();
            if (left > it.first()) {
                return leftDown(to.number());
            }
            if (right < it.last()) {
                return rightUp(to.number());
            }
            if (left < it.first()) {
                return leftUp(to.number());
            }
            if (right > it.last()) {
                return rightDown(to.number());
            }
            if (now != it.time()) {
                return turn(now < it.time() ? 1 : -1, to.number());
            }
            return null;
        }
    }

    private List<Integer> tape = new ArrayList<>();
    private List<Integer> cells = new ArrayList<>();
    private List<int[]> changes = new ArrayList<>();
    private List<Question> questions = new ArrayList<>();
    private final Deque<Runnable> acts = new ArrayDeque<>();
    private Window window = new Window();
    private int came = 0;
    private int weight = 1;
    private int order = 1;
    private int block = 4;

    Model() {
        for (int i = 0; i < 16; i++) {
            cells.add(0);
        }
    }

    int cells() {
        return cells.size();
    }

    int changes() {
        return changes.size();
    }

    int questions() {
        return questions.size();
    }

    int bytes() {
        return tape.size();
    }

    private static boolean within(int x, int least, int most) {
        return least <= x && x <= most;
    }

    private boolean isCell(int i) {
        return within(i, 0, cells.size() - 1);
    }

    private void note(Runnable undo) {
        acts.addLast(undo);
        if (acts.size() > 12) {
            acts.removeFirst();
        }
    }

    private int number(int cell, int time) {
        List<Integer> row = new ArrayList<>(cells);
        changes.subList(0, time).forEach(c -> row.set(c[0], c[1]));
        return row.get(cell);
    }

    // ---- what is told

    int feed(int... five) {
        if (tape.size() + 20 > 600) {
            return -1;
        }
        for (int n : five) {
            for (int i = 3; i >= 0; i--) {
                tape.add(n >>> 8 * i & 255);
            }
        }
        return tape.size();
    }

    int text(int n) {
        if (n < 0 || n > tape.size()) {
            return -1;
        }
        StringBuilder sb = new StringBuilder();
        tape.subList(0, n).forEach(b -> sb.append((char) b.intValue()));
        tape = new ArrayList<>();
        Model told = new Model();
        told.cells.clear();
        int lines;
        try {
            lines = told.new Text(sb.toString()).lines();
        } catch (Fault f) {
            return -2 - (8 * f.place + f.kind);
        }
        cells = told.cells;
        changes = told.changes;
        questions = told.questions;
        window = new Window();
        came = 0;
        weight = 1;
        order = 1;
        block = 4;
        acts.clear();
        return lines;
    }

    private final class Text {
        private static final List<String> KINDS =
            List.of("sum", "unlike", "often", "which", "power", "missing", "parts", "pairs");
        private final List<String> tokens = new ArrayList<>();
        private final List<Integer> places = new ArrayList<>();
        private int here = 0;

        Text(String text) {
            Matcher m = Pattern.compile("[a-z]+|[0-9]+|[ \n]+|(?s:.)").matcher(text);
            while (m.find()) {
                if (!m.group().matches("[ \n]+")) {
                    tokens.add(m.group());
                    places.add(m.start());
                }
            }
            tokens.add("");
            places.add(text.length());
        }

        String token() {
            return tokens.get(here);
        }

        void due(boolean good, int kind) {
            if (!good) {
                throw new Fault(places.get(here), kind);
            }
        }

        int whole(int least, int most) {
            due(token().matches("[0-9]{1,2}"), 1);
            int value = Integer.parseInt(token());
            due(within(value, least, most), 2);
            return value;
        }

        int lines() {
            int lines = 0;
            boolean more;
            do {
                line();
                lines++;
                due(token().equals(";") || token().equals(""), 1);
                more = token().equals(";");
                here++;
            } while (more);
            return lines;
        }

        void line() {
            due(List.of("row", "set", "ask").contains(token()), 1);
            if (token().equals("row")) {
                due(cells.isEmpty(), 3);
                row();
                return;
            }
            boolean set = token().equals("set");
            due(set ? changes.size() < 32 : questions.size() < 24, 4);
            due(!cells.isEmpty(), 5);
            here++;
            if (set) {
                set();
            } else {
                ask();
            }
        }

        void row() {
            do {
                here++;
                int v = whole(0, 63);
                due(cells.size() < 60, 4);
                cells.add(v);
                here++;
            } while (token().equals(","));
            due(cells.size() > 1 || !token().equals(";") && !token().equals(""), 5);
        }

        void set() {
            int cell = whole(0, cells.size() - 1);
            here++;
            int v = whole(0, 63);
            here++;
            changes.add(new int[] {cell, v});
        }

        void ask() {
            int kind = KINDS.indexOf(token());
            due(kind >= 0, 1);
            here++;
            int first = whole(0, cells.size() - 1);
            here++;
            int last = whole(first, cells.size() - 1);
            here++;
            int time = changes.size();
            if (token().equals("at")) {
                here++;
                time = whole(0, changes.size());
                here++;
            }
            questions.add(new Question(kind, first, last, time));
        }
    }

    int cell(int i, int v) {
        if (!isCell(i) || !within(v, 0, 63) || cells.get(i) == v || within(i, window.left, window.right)) {
            return -1;
        }
        int old = cells.set(i, v);
        note(() -> {
            boolean has = within(i, window.left, window.right);
            if (has) {
                window.hold(number(i, window.now), -1);
            }
            cells.set(i, old);
            if (has) {
                window.hold(number(i, window.now), 1);
            }
        });
        return old;
    }

    int change(int i, int v) {
        if (!isCell(i) || !within(v, 0, 63) || changes.size() == 32) {
            return -1;
        }
        changes.add(new int[] {i, v});
        note(() -> {
            if (window.now == changes.size()) {
                window.turn(-1, -1);
            }
            changes.remove(changes.size() - 1);
        });
        return changes.size();
    }

    private Question question(int kind, int first, int last, int time) {
        int meant = time == -1 ? changes.size() : time;
        boolean good = within(kind, 0, 7) && isCell(first) && isCell(last) && first <= last
            && within(meant, 0, changes.size());
        return good ? new Question(kind, first, last, meant) : null;
    }

    int ask(int kind, int first, int last, int time) {
        Question it = question(kind, first, last, time);
        if (it == null || questions.size() == 24) {
            return -1;
        }
        questions.add(it);
        note(() -> questions.remove(questions.size() - 1));
        return questions.size() - 1;
    }

    int drop() {
        if (questions.isEmpty()) {
            return -1;
        }
        Question it = questions.remove(questions.size() - 1);
        note(() -> questions.add(it));
        return questions.size();
    }

    int weight(int w) {
        if (!within(w, 0, 9)) {
            return -1;
        }
        int old = weight;
        weight = w;
        note(() -> weight = old);
        return old;
    }

    int set(int o, int b) {
        if (!within(o, 0, 2) || !within(b, 1, 60)) {
            return -1;
        }
        int oldOrder = order;
        int oldBlock = block;
        order = o;
        block = b;
        note(() -> {
            order = oldOrder;
            block = oldBlock;
        });
        return 100 * oldOrder + oldBlock;
    }

    int back() {
        if (acts.isEmpty()) {
            return 0;
        }
        acts.removeLast().run();
        return 1;
    }

    // ---- answers

    private long answer(int kind, TreeMap<Integer, Integer> held) {
        switch (kind) {
            case 0:
                return held.entrySet().stream().mapToLong(e -> (long) e.getKey() * e.getValue()).sum();
            case 1:
                return held.size();
            case 2:
                return held.values().stream().max(Comparator.naturalOrder()).get();
            case 3:
                long often = answer(2, held);
                return held.keySet().stream().filter(v -> held.get(v) == often).findFirst().get();
            case 4:
                return held.entrySet().stream()
                    .mapToLong(e -> (long) e.getValue() * e.getValue() * e.getKey()).sum();
            case 5:
                int missing = 0;
                while (held.containsKey(missing)) {
                    missing++;
                }
                return missing;
            case 6:
                return parts(held.keySet());
            default:
                return held.values().stream().mapToLong(k -> (long) k * (k - 1) / 2).sum();
        }
    }

    private static long parts(Set<Integer> numbers) {
        Set<Integer> seen = new HashSet<>();
        int parts = 0;
        for (int node = 0; node < 8; node++) {
            if (!seen.contains(node)) {
                parts++;
                Deque<Integer> open = new ArrayDeque<>(List.of(node));
                while (!open.isEmpty()) {
                    int a = open.pop();
                    if (seen.add(a)) {
                        for (int v : numbers) {
                            if (v / 8 == a) {
                                open.push(v % 8);
                            }
                            if (v % 8 == a) {
                                open.push(v / 8);
                            }
                        }
                    }
                }
            }
        }
        return parts;
    }

    private long answerOf(Question it) {
        TreeMap<Integer, Integer> held = new TreeMap<>();
        for (int i = it.first(); i <= it.last(); i++) {
            held.merge(number(i, it.time()), 1, Integer::sum);
        }
        return answer(it.kind(), held);
    }

    long answer(int q) {
        if (!within(q, 0, questions.size() - 1)) {
            throw new NoSuchElementException();
        }
        return answerOf(questions.get(q));
    }

    int at(int i, int time) {
        return isCell(i) && within(time, 0, changes.size()) ? number(i, time) : -1;
    }

    int of(int q, int what) {
        if (!within(q, 0, questions.size() - 1) || !within(what, 0, 5)) {
            return -1;
        }
        Question it = questions.get(q);
        int[] all = {it.kind(), it.first(), it.last(), it.time(), questions.indexOf(it),
            (int) questions.stream().filter(it::equals).count()};
        return all[what];
    }

    // ---- the plan

    static int curve(int x, int y) {
        int d = 0;
        for (int s : new int[] {32, 16, 8, 4, 2, 1}) {
            int p = x / s % 2;
            int q = y / s % 2;
            d += s * s * (p == 0 ? q : 3 - q);
            if (q == 0) {
                if (p == 1) {
                    x = 63 - x;
                    y = 63 - y;
                }
                int z = x;
                x = y;
                y = z;
            }
        }
        return d;
    }

    private static Comparator<Asked> comparator(int o, int b) {
        Comparator<Asked> byFirst = Comparator.comparing(a -> a.it().first() / b);
        Comparator<Asked> byLast = Comparator.comparing(a -> a.it().last() / b);
        Comparator<Asked> byTime = Comparator.comparing(a -> a.it().time());
        Comparator<Asked> byNumber = Comparator.comparing(Asked::number);
        if (o == 0) {
            return byFirst.thenComparing(byLast).thenComparing(byTime).thenComparing(byNumber);
        }
        if (o == 2) {
            Comparator<Asked> byCurve = Comparator.comparing(a -> curve(a.it().first() / b, a.it().last() / b));
            return byCurve.thenComparing(byTime).thenComparing(byNumber);
        }
        return byFirst
            .thenComparing((u, v) -> u.it().first() / b % 2 == 0 ? byLast.compare(u, v) : byLast.compare(v, u))
            .thenComparing((u, v) -> u.it().last() / b % 2 == 0 ? byTime.compare(u, v) : byTime.compare(v, u))
            .thenComparing(byNumber);
    }

    private static List<Asked> numbered(List<Question> all) {
        List<Asked> asked = new ArrayList<>();
        for (int i = 0; i < all.size(); i++) {
            asked.add(new Asked(i, all.get(i)));
        }
        return asked;
    }

    private static List<Asked> plan(List<Question> all, int o, int b) {
        List<Asked> plan = numbered(all);
        plan.removeIf(a -> List.of(2, 3, 6).contains(a.it().kind()));
        plan.sort(comparator(o, b));
        return plan;
    }

    private List<Move> moves(List<Asked> plan) {
        Window w = new Window();
        List<Move> moves = new ArrayList<>();
        for (Asked to : plan) {
            for (Move m = w.step(to); m != null; m = w.step(to)) {
                moves.add(m);
            }
        }
        return moves;
    }

    private int cost(List<Asked> plan) {
        return moves(plan).stream().mapToInt(m -> m.kind() < 4 ? 1 : weight).sum();
    }

    int planned(int o, int b, int i) {
        if (!within(o, 0, 2) || !within(b, 1, 60)) {
            return -1;
        }
        List<Asked> plan = plan(questions, o, b);
        if (i == -1) {
            return plan.size();
        }
        return within(i, 0, plan.size() - 1) ? plan.get(i).number() : -1;
    }

    int moves(int o, int b, int what) {
        if (!within(o, 0, 2) || !within(b, 1, 60) || !within(what, 0, 4) || what == 4 && o != 1) {
            return -1;
        }
        List<Asked> plan = plan(questions, o, b);
        List<Move> moves = moves(plan);
        int turns = (int) moves.stream().filter(m -> m.kind() > 3).count();
        int n = cells.size();
        switch (what) {
            case 0:
                return moves.size() - turns;
            case 1:
                return turns;
            case 2:
                return cost(plan);
            case 3:
                return (int) plan.stream()
                    .mapToLong(a -> moves.stream().filter(m -> m.question() == a.number()).count()).max().orElse(0);
            default:
                int m = n / b + (n % b == 0 ? 0 : 1);
                return 3 * b * plan.size() + 2 * (m + 1) * (n + b);
        }
    }

    int best(int o, int what) {
        if (!within(o, 0, 2) || !within(what, 0, 1)) {
            return -1;
        }
        TreeMap<Integer, Integer> blockOf = new TreeMap<>();
        for (int b = 1; b <= cells.size(); b++) {
            blockOf.putIfAbsent(cost(plan(questions, o, b)), b);
        }
        return what == 0 ? blockOf.firstEntry().getValue() : blockOf.firstKey();
    }

    int split(int k, int what) {
        if (!within(k, 1, 4) || !within(what, 0, k)) {
            return -1;
        }
        List<Asked> plan = plan(questions, order, block);
        int[][] costs = new int[plan.size() + 1][plan.size() + 1];
        for (int i = 0; i <= plan.size(); i++) {
            for (int j = i; j <= plan.size(); j++) {
                costs[i][j] = cost(plan.subList(i, j));
            }
        }
        List<int[]> all = new ArrayList<>();
        cut(costs, new int[k + 1], 1, all);
        int[] best = all.get(0);
        for (int[] other : all) {
            if (isBetter(other, best)) {
                best = other;
            }
        }
        return best[what];
    }

    /** Rows {greatest cost, questions of the first, second ..}. */
    private static void cut(int[][] costs, int[] row, int worker, List<int[]> all) {
        int from = 0;
        for (int w = 1; w < worker; w++) {
            from += row[w];
        }
        int q = costs.length - 1;
        int least = worker == row.length - 1 ? q - from : 0;
        for (int part = least; part <= q - from; part++) {
            int[] next = row.clone();
            next[worker] = part;
            next[0] = Math.max(next[0], costs[from][from + part]);
            if (worker == row.length - 1) {
                all.add(next);
            } else {
                cut(costs, next, worker + 1, all);
            }
        }
    }

    private static boolean isBetter(int[] a, int[] b) {
        if (a[0] != b[0]) {
            return a[0] < b[0];
        }
        for (int i = 1; i < a.length; i++) {
            if (a[i] != b[i]) {
                return a[i] > b[i];
            }
        }
        return false;
    }

    int move(int i, int what) {
        List<Move> moves = moves(plan(questions, order, block));
        if (!within(i, 0, moves.size() - 1) || !within(what, 0, 2)) {
            return -1;
        }
        Move m = moves.get(i);
        return what == 0 ? m.kind() : what == 1 ? m.thing() : m.question();
    }

    int saves(int q) {
        if (!within(q, 0, questions.size() - 1)) {
            return -100000;
        }
        List<Question> fewer = new ArrayList<>(questions);
        fewer.remove(q);
        return cost(plan(questions, order, block)) - cost(plan(fewer, order, block));
    }

    int would(int kind, int first, int last, int time) {
        Question it = question(kind, first, last, time);
        if (it == null) {
            return -100000;
        }
        List<Question> more = new ArrayList<>(questions);
        more.add(it);
        return cost(plan(more, order, block)) - cost(plan(questions, order, block));
    }

    // ---- the undoing

    private List<Asked> undoing(int b) {
        List<Asked> all = numbered(questions);
        all.removeIf(a -> !List.of(2, 3, 6).contains(a.it().kind()));
        all.sort(Comparator.comparing((Asked a) -> a.it().time()).thenComparing(a -> a.it().first() / b)
            .thenComparing(a -> a.it().last()).thenComparing(Asked::number));
        return all;
    }

    int undone(int b, int i) {
        if (!within(b, 1, 60)) {
            return -1;
        }
        List<Asked> all = undoing(b);
        if (i == -1) {
            return all.size();
        }
        return within(i, 0, all.size() - 1) ? all.get(i).number() : -1;
    }

    int adds(int b, int what) {
        if (!within(b, 1, 60) || !within(what, 0, 2)) {
            return -1;
        }
        int adds = 0;
        int deepest = 0;
        Set<List<Integer>> groups = new HashSet<>();
        Set<Integer> held = new HashSet<>();
        for (Asked a : undoing(b)) {
            Question it = a.it();
            int border = Math.min(cells.size(), it.first() / b * b + b);
            if (groups.add(List.of(it.time(), it.first() / b))) {
                held.clear();
            }
            List<Integer> comes = new ArrayList<>();
            for (int i = border; i <= it.last(); i++) {
                if (held.add(i)) {
                    adds++;
                }
            }
            for (int i = Math.min(border - 1, it.last()); i >= it.first(); i--) {
                comes.add(i);
                adds++;
            }
            held.addAll(comes);
            deepest = Math.max(deepest, held.size());
            held.removeAll(comes);
        }
        return new int[] {adds, groups.size(), deepest}[what];
    }

    // ---- the walk

    private int done() {
        return Math.min(came, plan(questions, order, block).size());
    }

    int walk(int n) {
        if (!within(n, 1, 400)) {
            return -1;
        }
        List<Asked> plan = plan(questions, order, block);
        came = done();
        int made = 0;
        while (came < plan.size()) {
            Asked to = plan.get(came);
            boolean there = window.left == to.it().first() && window.right == to.it().last()
                && window.now == to.it().time();
            if (there) {
                came++;
            } else if (made == n) {
                break;
            } else {
                window.step(to);
                made++;
            }
        }
        return made;
    }

    int home() {
        int before = window.ends + window.turns;
        while (window.right > window.left - 1) {
            window.rightDown(-1);
        }
        while (window.left > 0) {
            window.leftDown(-1);
        }
        while (window.right > -1) {
            window.rightDown(-1);
        }
        while (window.now > 0) {
            window.turn(-1, -1);
        }
        came = 0;
        return window.ends + window.turns - before;
    }

    int window(int what) {
        if (!within(what, 0, 7)) {
            return -1;
        }
        List<Asked> plan = plan(questions, order, block);
        int next = done() < plan.size() ? plan.get(done()).number() : -1;
        return new int[] {window.left, window.right, window.now, done(), next, window.ends, window.turns,
            window.held.size()}[what];
    }

    int holds(int v) {
        return within(v, 0, 63) ? window.held.getOrDefault(v, 0) : -1;
    }

    long tells(int kind) {
        return List.of(0, 1, 4, 5, 7).contains(kind) ? answer(kind, window.held) : -1;
    }

    int touched(int i, int v) {
        if (!isCell(i) || !within(v, 0, 63)) {
            return -1;
        }
        long[] before = questions.stream().mapToLong(this::answerOf).toArray();
        int old = cells.set(i, v);
        long[] after = questions.stream().mapToLong(this::answerOf).toArray();
        cells.set(i, old);
        int others = 0;
        for (int q = 0; q < before.length; q++) {
            others += before[q] == after[q] ? 0 : 1;
        }
        return others;
    }

    int count(int what) {
        int most = 0;
        int busiest = 0;
        for (int i = cells.size() - 1; i >= 0; i--) {
            int cell = i;
            int having = (int) questions.stream().filter(it -> within(cell, it.first(), it.last())).count();
            if (having >= most) {
                most = having;
                busiest = i;
            }
        }
        int[] all = {cells.size(), changes.size(), questions.size(), weight, order, block,
            new HashSet<>(questions).size(), most, busiest, acts.size(), tape.size()};
        return within(what, 0, 10) ? all[what] : -1;
    }
}
