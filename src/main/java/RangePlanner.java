import java.util.Arrays;
import java.util.NoSuchElementException;

/**
 * Planner answering many stored range questions over a row of numbers that changes with time.
 * Words in capitals are the document's own terms.
 */
public final class RangePlanner {
    public static final int NONE = -1;

    private static final int FIRST_CELLS = 16;
    private static final int LEAST_CELLS = 2;
    private static final int MOST_CELLS = 60;
    private static final int MOST_CHANGES = 32;
    private static final int MOST_QUESTIONS = 24;
    private static final int MOST_BYTES = 600;
    private static final int MOST_BLOCK = 60;
    private static final int MOST_WEIGHT = 9;
    private static final int MOST_WORKERS = 4;
    private static final int MOST_ACTS = 12;
    private static final int MOST_STEPS = 400;

    /** Numbers are 0 to 63; so are CELLS, TIMES and blocks of CELLS, wherever they are parts of a key. */
    private static final int NUMBERS = 64;
    private static final int NODES = 8;

    /** What saves() and would() refuse with: a difference of COSTS may well be -1. */
    private static final int NO_DIFFERENCE = -100000;

    private static final int SUM = 0;
    private static final int UNLIKE = 1;
    private static final int OFTEN = 2;
    private static final int WHICH = 3;
    private static final int POWER = 4;
    private static final int MISSING = 5;
    private static final int PARTS = 6;
    private static final int PAIRS = 7;
    private static final int KINDS = 8;

    private static final int BLOCKS_UPWARDS = 0;
    private static final int THERE_AND_BACK = 1;
    private static final int CURVE = 2;
    private static final int ORDERS = 3;
    private static final int FIRST_BLOCK = 4;

    private static final int LEFT_DOWN = 0;
    private static final int RIGHT_UP = 1;
    private static final int LEFT_UP = 2;
    private static final int RIGHT_DOWN = 3;
    private static final int CHANGE_DONE = 4;
    private static final int CHANGE_UNDONE = 5;
    private static final int MOVE_KINDS = 6;

    private static final int ACT_CHANGE = 0;
    private static final int ACT_ASK = 1;
    private static final int ACT_DROP = 2;
    private static final int ACT_WEIGHT = 3;
    private static final int ACT_SET = 4;
    private static final int ACT_CELL = 5;

    private final Reader reader = new Reader();
    private final Row row = new Row();
    private final Questions questions = new Questions();
    private final Tally tally = new Tally();
    private final Plan plan = new Plan();
    private final Split workers = new Split();
    private final Undoing undoing = new Undoing();
    private final Window walker = new Window();
    private final Acts acts = new Acts();
    private int weight = 1;
    private int order = THERE_AND_BACK;
    private int block = FIRST_BLOCK;

    public RangePlanner() {
        row.size = FIRST_CELLS;
    }

    public int feed(int a, int b, int c, int d, int e) {
        if (reader.size + 20 > MOST_BYTES) {
            return NONE;
        }
        reader.put(a);
        reader.put(b);
        reader.put(c);
        reader.put(d);
        reader.put(e);
        return reader.size;
    }

    public int text(int n) {
        if (n < 0 || n > reader.size) {
            return NONE;
        }
        int lines = reader.read(n);
        reader.size = 0;
        if (lines < 0) {
            return lines;
        }
        row.copyFrom(reader.row);
        questions.copyFrom(reader.questions);
        walker.begin();
        acts.size = 0;
        weight = 1;
        order = THERE_AND_BACK;
        block = FIRST_BLOCK;
        return lines;
    }

    public int cell(int i, int v) {
        if (!row.has(i) || !isNumber(v) || row.cells[i] == v || walker.has(i)) {
            return NONE;
        }
        int old = row.cells[i];
        row.cells[i] = v;
        acts.note(ACT_CELL, i, old, 0, 0);
        return old;
    }

    public int change(int i, int v) {
        if (!row.has(i) || !isNumber(v) || !row.hasRoomForChange()) {
            return NONE;
        }
        row.addChange(i, v);
        acts.note(ACT_CHANGE, 0, 0, 0, 0);
        return row.changes;
    }

    public int ask(int kind, int first, int last, int time) {
        if (!isQuestion(kind, first, last, time) || questions.size >= MOST_QUESTIONS) {
            return NONE;
        }
        questions.add(kind, first, last, timeMeant(time));
        acts.note(ACT_ASK, 0, 0, 0, 0);
        return questions.size - 1;
    }

    public int drop() {
        int q = questions.size - 1;
        if (!questions.has(q)) {
            return NONE;
        }
        acts.note(ACT_DROP, questions.kind[q], questions.first[q], questions.last[q], questions.time[q]);
        questions.removeLast();
        return questions.size;
    }

    public int weight(int w) {
        if (w < 0 || w > MOST_WEIGHT) {
            return NONE;
        }
        int old = weight;
        weight = w;
        acts.note(ACT_WEIGHT, old, 0, 0, 0);
        return old;
    }

    public int set(int order, int b) {
        if (!isPlan(order, b)) {
            return NONE;
        }
        int old = 100 * this.order + block;
        acts.note(ACT_SET, this.order, block, 0, 0);
        this.order = order;
        block = b;
        return old;
    }

    public boolean back() {
        int act = acts.takeLast();
        if (act == NONE) {
            return false;
        }
        int[] was = acts.was[act];
        switch (acts.kind[act]) {
            case ACT_CHANGE:
                takeBackChange();
                break;
            case ACT_ASK:
                questions.removeLast();
                break;
            case ACT_DROP:
                questions.add(was[0], was[1], was[2], was[3]);
                break;
            case ACT_WEIGHT:
                weight = was[0];
                break;
            case ACT_SET:
                order = was[0];
                block = was[1];
                break;
            default:
                row.setCell(was[0], was[1]);
                break;
        }
        return true;
    }

    public long answer(int question) throws NoSuchElementException {
        if (!questions.has(question)) {
            throw new NoSuchElementException("no such question");
        }
        return answerOf(question);
    }

    public int at(int i, int time) {
        return row.has(i) && row.hasTime(time) ? row.numberAt(i, time) : NONE;
    }

    public int of(int question, int what) {
        if (!questions.has(question)) {
            return NONE;
        }
        switch (what) {
            case 0:
                return questions.kind[question];
            case 1:
                return questions.first[question];
            case 2:
                return questions.last[question];
            case 3:
                return questions.time[question];
            case 4:
                return questions.firstAlike(question);
            case 5:
                return questions.howManyAlike(question);
            default:
                return NONE;
        }
    }

    public int planned(int order, int b, int i) {
        if (!isPlan(order, b)) {
            return NONE;
        }
        plan.lay(questions, order, b, NONE);
        return i == NONE ? plan.sorted.size : plan.sorted.question(i);
    }

    public int moves(int order, int b, int what) {
        if (!isPlan(order, b)) {
            return NONE;
        }
        plan.lay(questions, order, b, NONE);
        plan.follow(questions);
        switch (what) {
            case 0:
                return plan.probe.ends;
            case 1:
                return plan.probe.turns;
            case 2:
                return plan.probe.cost(weight);
            case 3:
                return plan.most;
            case 4:
                return order == THERE_AND_BACK ? bound(b) : NONE;
            default:
                return NONE;
        }
    }

    public int best(int order, int what) {
        if (!isPlan(order, 1) || what < 0 || what > 1) {
            return NONE;
        }
        int best = 1;
        int least = costOf(order, 1, NONE);
        for (int b = 2; b <= row.size; b++) {
            int cost = costOf(order, b, NONE);
            if (cost < least) {
                best = b;
                least = cost;
            }
        }
        return what == 0 ? best : least;
    }

    public int split(int k, int what) {
        if (k < 1 || k > MOST_WORKERS || what < 0 || what > k) {
            return NONE;
        }
        plan.lay(questions, order, block, NONE);
        workers.measure(plan, questions, weight);
        workers.solve(k);
        return what == 0 ? workers.greatest(k) : workers.share(k, what);
    }

    public int move(int i, int what) {
        if (i < 0 || what < 0 || what > 2) {
            return NONE;
        }
        plan.lay(questions, order, block, NONE);
        int question = plan.goAhead(questions, i);
        if (question == NONE || what == 2) {
            return question;
        }
        int kind = plan.probe.nextKind();
        return what == 0 ? kind : plan.probe.movedBy(kind);
    }

    public int saves(int question) {
        if (!questions.has(question)) {
            return NO_DIFFERENCE;
        }
        return costOf(order, block, NONE) - costOf(order, block, question);
    }

    public int would(int kind, int first, int last, int time) {
        if (!isQuestion(kind, first, last, time)) {
            return NO_DIFFERENCE;
        }
        int without = costOf(order, block, NONE);
        questions.add(kind, first, last, timeMeant(time));
        int with = costOf(order, block, NONE);
        questions.removeLast();
        return with - without;
    }

    public int undone(int b, int i) {
        if (!isBlock(b)) {
            return NONE;
        }
        undoing.lay(questions, b);
        return i == NONE ? undoing.sorted.size : undoing.sorted.question(i);
    }

    public int adds(int b, int what) {
        if (!isBlock(b)) {
            return NONE;
        }
        undoing.lay(questions, b);
        undoing.follow(questions, b, row.size);
        switch (what) {
            case 0:
                return undoing.adds;
            case 1:
                return undoing.groups;
            case 2:
                return undoing.deepest;
            default:
                return NONE;
        }
    }

    public int walk(int n) {
        if (n < 1 || n > MOST_STEPS) {
            return NONE;
        }
        plan.lay(questions, order, block, NONE);
        // Of a PLAN that has fewer all are DONE, and the WALK goes on behind these when it has more again.
        walker.cameTo = Math.min(walker.cameTo, plan.sorted.size);
        int made = 0;
        for (int i = walker.cameTo; i < plan.sorted.size; i++) {
            questions.aim(walker, plan.sorted.question(i));
            made += walker.make(n - made);
            if (walker.distance() > 0) {
                break;
            }
            walker.cameTo = i + 1;
        }
        return made;
    }

    public int home() {
        int made = walker.shift(RIGHT_DOWN, walker.right - walker.left + 1);
        made += walker.shift(LEFT_DOWN, walker.left);
        made += walker.shift(RIGHT_DOWN, walker.right + 1);
        made += walker.shift(CHANGE_UNDONE, walker.now);
        walker.cameTo = 0;
        return made;
    }

    public int window(int what) {
        switch (what) {
            case 0:
                return walker.left;
            case 1:
                return walker.right;
            case 2:
                return walker.now;
            case 3:
                plan.lay(questions, order, block, NONE);
                return Math.min(walker.cameTo, plan.sorted.size);
            case 4:
                plan.lay(questions, order, block, NONE);
                return plan.sorted.question(walker.cameTo);
            case 5:
                return walker.ends;
            case 6:
                return walker.turns;
            case 7:
                tallyWindow();
                return (int) tally.tell(UNLIKE);
            default:
                return NONE;
        }
    }

    public int holds(int v) {
        if (!isNumber(v)) {
            return NONE;
        }
        tallyWindow();
        return tally.times[v];
    }

    public long tells(int kind) {
        if (!isKind(kind) || !Questions.isPlannedKind(kind)) {
            return NONE;
        }
        tallyWindow();
        return tally.tell(kind);
    }

    public int touched(int i, int v) {
        if (!row.has(i) || !isNumber(v)) {
            return NONE;
        }
        int old = row.cells[i];
        int others = 0;
        for (int q = 0; q < questions.size; q++) {
            long before = answerOf(q);
            row.setCell(i, v);
            if (answerOf(q) != before) {
                others++;
            }
            row.setCell(i, old);
        }
        return others;
    }

    public int count(int what) {
        switch (what) {
            case 0:
                return row.size;
            case 1:
                return row.changes;
            case 2:
                return questions.size;
            case 3:
                return weight;
            case 4:
                return order;
            case 5:
                return block;
            case 6:
                return questions.unlikeOnes();
            case 7:
                return questions.howManyHave(busiestCell());
            case 8:
                return busiestCell();
            case 9:
                return acts.size;
            case 10:
                return reader.size;
            default:
                return NONE;
        }
    }

    private static boolean isNumber(int v) {
        return v >= 0 && v < NUMBERS;
    }

    private static boolean isKind(int kind) {
        return kind >= 0 && kind < KINDS;
    }

    private static boolean isBlock(int b) {
        return b >= 1 && b <= MOST_BLOCK;
    }

    private static boolean isPlan(int order, int b) {
        return order >= 0 && order < ORDERS && isBlock(b);
    }

    private boolean isQuestion(int kind, int first, int last, int time) {
        return isKind(kind) && row.has(first) && row.has(last) && first <= last
            && (time == NONE || row.hasTime(time));
    }

    private int timeMeant(int time) {
        return time == NONE ? row.changes : time;
    }

    private void takeBackChange() {
        if (walker.now >= row.changes) {
            walker.shift(CHANGE_UNDONE, 1);
        }
        row.removeLastChange();
    }

    private long answerOf(int question) {
        int[] numbers = row.asAt(questions.time[question]);
        tally.take(numbers, questions.first[question], questions.last[question]);
        return tally.tell(questions.kind[question]);
    }

    /** The WINDOW keeps no numbers: what it holds is always the ROW at NOW between its ends. */
    private void tallyWindow() {
        tally.take(row.asAt(walker.now), walker.left, walker.right);
    }

    private int costOf(int order, int b, int without) {
        plan.lay(questions, order, b, without);
        plan.follow(questions);
        return plan.probe.cost(weight);
    }

    private int bound(int b) {
        if (b < 1) {
            return NONE;
        }
        int blocks = (row.size + b - 1) / b;
        return 3 * b * plan.sorted.size + 2 * (blocks + 1) * (row.size + b);
    }

    private int busiestCell() {
        int busiest = 0;
        for (int i = 1; i < row.size; i++) {
            if (questions.howManyHave(i) > questions.howManyHave(busiest)) {
                busiest = i;
            }
        }
        return busiest;
    }

    /** The CELLS at TIME 0 and the CHANGES. */
    private static final class Row {
        private final int[] cells = new int[MOST_CELLS];
        private final int[] changedCell = new int[MOST_CHANGES];
        private final int[] changedTo = new int[MOST_CHANGES];
        private final int[] shown = new int[MOST_CELLS];
        private int size;
        private int changes;

        void clear() {
            size = 0;
            changes = 0;
        }

        void copyFrom(Row other) {
            System.arraycopy(other.cells, 0, cells, 0, MOST_CELLS);
            System.arraycopy(other.changedCell, 0, changedCell, 0, MOST_CHANGES);
            System.arraycopy(other.changedTo, 0, changedTo, 0, MOST_CHANGES);
            size = other.size;
            changes = other.changes;
        }

        boolean has(int i) {
            return i >= 0 && i < size;
        }

        boolean hasTime(int time) {
            return time >= 0 && time <= changes;
        }

        boolean hasRoomForCell() {
            return size < MOST_CELLS;
        }

        boolean hasRoomForChange() {
            return changes < MOST_CHANGES;
        }

        void addCell(int v) {
            if (hasRoomForCell()) {
                cells[size] = v;
                size++;
            }
        }

        void setCell(int i, int v) {
            if (has(i)) {
                cells[i] = v;
            }
        }

        void addChange(int i, int v) {
            if (hasRoomForChange()) {
                changedCell[changes] = i;
                changedTo[changes] = v;
                changes++;
            }
        }

        void removeLastChange() {
            if (changes > 0) {
                changes--;
            }
        }

        int numberAt(int i, int time) {
            for (int k = Math.min(time, changes) - 1; k >= 0; k--) {
                if (changedCell[k] == i) {
                    return changedTo[k];
                }
            }
            return has(i) ? cells[i] : NONE;
        }

        /** All numbers at a TIME, in a row that the next call of this uses again. */
        int[] asAt(int time) {
            System.arraycopy(cells, 0, shown, 0, MOST_CELLS);
            for (int k = 0; k < time && k < changes; k++) {
                int i = changedCell[k];
                if (has(i)) {
                    shown[i] = changedTo[k];
                }
            }
            return shown;
        }
    }

    /** The QUESTIONS, with room for one more than may be asked: would() tries one on top of all. */
    private static final class Questions {
        private final int[] kind = new int[MOST_QUESTIONS + 1];
        private final int[] first = new int[MOST_QUESTIONS + 1];
        private final int[] last = new int[MOST_QUESTIONS + 1];
        private final int[] time = new int[MOST_QUESTIONS + 1];
        private int size;

        static boolean isPlannedKind(int kind) {
            return kind != OFTEN && kind != WHICH && kind != PARTS;
        }

        void copyFrom(Questions other) {
            size = 0;
            for (int q = 0; q < other.size; q++) {
                add(other.kind[q], other.first[q], other.last[q], other.time[q]);
            }
        }

        boolean has(int q) {
            return q >= 0 && q < size;
        }

        void add(int itsKind, int itsFirst, int itsLast, int itsTime) {
            if (size <= MOST_QUESTIONS) {
                kind[size] = itsKind;
                first[size] = itsFirst;
                last[size] = itsLast;
                time[size] = itsTime;
                size++;
            }
        }

        void removeLast() {
            if (size > 0) {
                size--;
            }
        }

        boolean isPlanned(int q) {
            return isPlannedKind(kind[q]);
        }

        boolean areAlike(int q, int r) {
            return kind[q] == kind[r] && first[q] == first[r] && last[q] == last[r] && time[q] == time[r];
        }

        int firstAlike(int q) {
            for (int r = 0; r < q; r++) {
                if (areAlike(q, r)) {
                    return r;
                }
            }
            return q;
        }

        int howManyAlike(int q) {
            int alike = 0;
            for (int r = 0; r < size; r++) {
                if (areAlike(q, r)) {
                    alike++;
                }
            }
            return alike;
        }

        int unlikeOnes() {
            int unlike = 0;
            for (int q = 0; q < size; q++) {
                if (firstAlike(q) == q) {
                    unlike++;
                }
            }
            return unlike;
        }

        int howManyHave(int i) {
            int having = 0;
            for (int q = 0; q < size; q++) {
                if (first[q] <= i && i <= last[q]) {
                    having++;
                }
            }
            return having;
        }

        void aim(Window window, int q) {
            if (has(q)) {
                window.aim(first[q], last[q], time[q]);
            }
        }
    }

    /** How often each number is there, and what QUESTIONS of each KIND are answered by that. */
    private static final class Tally {
        private final int[] times = new int[NUMBERS];
        private final int[] partOf = new int[NODES];

        void take(int[] numbers, int first, int last) {
            Arrays.fill(times, 0);
            for (int i = Math.max(first, 0); i <= last && i < numbers.length; i++) {
                int v = numbers[i];
                if (isNumber(v)) {
                    times[v]++;
                }
            }
        }

        long tell(int kind) {
            switch (kind) {
                case SUM:
                    return sum();
                case UNLIKE:
                    return unlike();
                case OFTEN:
                    return times[mostFrequent()];
                case WHICH:
                    return mostFrequent();
                case POWER:
                    return power();
                case MISSING:
                    return missing();
                case PARTS:
                    return parts();
                default:
                    return pairs();
            }
        }

        private long sum() {
            long sum = 0;
            for (int v = 0; v < NUMBERS; v++) {
                sum += (long) v * times[v];
            }
            return sum;
        }

        private long unlike() {
            long unlike = 0;
            for (int v = 0; v < NUMBERS; v++) {
                if (times[v] > 0) {
                    unlike++;
                }
            }
            return unlike;
        }

        private int mostFrequent() {
            int most = 0;
            for (int v = 1; v < NUMBERS; v++) {
                if (times[v] > times[most]) {
                    most = v;
                }
            }
            return most;
        }

        private long power() {
            long power = 0;
            for (int v = 0; v < NUMBERS; v++) {
                power += (long) times[v] * times[v] * v;
            }
            return power;
        }

        private long missing() {
            int v = 0;
            while (v < NUMBERS && times[v] > 0) {
                v++;
            }
            return v;
        }

        private long parts() {
            for (int node = 0; node < NODES; node++) {
                partOf[node] = node;
            }
            long parts = NODES;
            for (int v = 0; v < NUMBERS; v++) {
                if (times[v] > 0 && join(v / NODES, v % NODES)) {
                    parts--;
                }
            }
            return parts;
        }

        private boolean join(int a, int b) {
            int kept = partOf[a];
            int gone = partOf[b];
            for (int node = 0; node < NODES; node++) {
                if (partOf[node] == gone) {
                    partOf[node] = kept;
                }
            }
            return kept != gone;
        }

        private long pairs() {
            long pairs = 0;
            for (int v = 0; v < NUMBERS; v++) {
                pairs += (long) times[v] * (times[v] - 1) / 2;
            }
            return pairs;
        }
    }

    /** QUESTIONS in a row by keys, the least first; a key ends in the QUESTION's number, so no two are like. */
    private static final class Sorted {
        private static final int NUMBERING = 32;

        private final int[] keys = new int[MOST_QUESTIONS + 1];
        private int size;

        static int key(int a, int b, int c, int question) {
            return ((a * NUMBERS + b) * NUMBERS + c) * NUMBERING + question;
        }

        void insert(int key) {
            if (size > MOST_QUESTIONS) {
                return;
            }
            int place = size;
            while (place > 0 && keys[place - 1] > key) {
                keys[place] = keys[place - 1];
                place--;
            }
            keys[place] = key;
            size++;
        }

        int question(int i) {
            return i >= 0 && i < size ? keys[i] % NUMBERING : NONE;
        }

        /** Whether the first two parts of the keys of this one and the one ahead of it are like. */
        boolean goesOn(int i) {
            int behind = NUMBERS * NUMBERING;
            return i > 0 && i < size && keys[i] / behind == keys[i - 1] / behind;
        }
    }

    /** THE PLAN by an ORDER and a BLOCK, and a WINDOW of its own that tries it. */
    private static final class Plan {
        private static final int HIGHEST = NUMBERS - 1;

        private final Sorted sorted = new Sorted();
        private final Window probe = new Window();
        private int most;

        void lay(Questions questions, int order, int b, int without) {
            sorted.size = 0;
            for (int q = 0; q < questions.size; q++) {
                if (q != without && questions.isPlanned(q)) {
                    sorted.insert(keyOf(questions, q, order, b));
                }
            }
        }

        private static int keyOf(Questions questions, int q, int order, int b) {
            if (b < 1) {
                return q;
            }
            int x = questions.first[q] / b;
            int y = questions.last[q] / b;
            int time = questions.time[q];
            if (order == BLOCKS_UPWARDS) {
                return Sorted.key(x, y, time, q);
            }
            if (order == CURVE) {
                return Sorted.key(0, curve(x, y), time, q);
            }
            return Sorted.key(x, thereAndBack(x, y), thereAndBack(y, time), q);
        }

        /** Upwards behind an even one, downwards behind an odd one. */
        private static int thereAndBack(int outer, int inner) {
            return outer % 2 == 0 ? inner : HIGHEST - inner;
        }

        private static int curve(int blockOfFirst, int blockOfLast) {
            int x = blockOfFirst;
            int y = blockOfLast;
            int d = 0;
            for (int s = NUMBERS / 2; s > 0; s /= 2) {
                int p = (x & s) != 0 ? 1 : 0;
                int q = (y & s) != 0 ? 1 : 0;
                d += s * s * ((3 * p) ^ q);
                if (q == 0) {
                    int turnedX = p == 1 ? HIGHEST - x : x;
                    int turnedY = p == 1 ? HIGHEST - y : y;
                    x = turnedY;
                    y = turnedX;
                }
            }
            return d;
        }

        /** Goes along the whole PLAN; the probe has its ENDS and TURNS then. */
        void follow(Questions questions) {
            probe.begin();
            most = 0;
            for (int i = 0; i < sorted.size; i++) {
                questions.aim(probe, sorted.question(i));
                most = Math.max(most, probe.make(probe.distance()));
            }
        }

        /** Makes the first MOVES; to which QUESTION the probe is on its way then, NONE: there are no more. */
        int goAhead(Questions questions, int moves) {
            probe.begin();
            int rest = moves;
            for (int i = 0; i < sorted.size; i++) {
                questions.aim(probe, sorted.question(i));
                rest -= probe.make(rest);
                if (probe.distance() > 0) {
                    return sorted.question(i);
                }
            }
            return NONE;
        }
    }

    /** Two ends and a TIME, and how many MOVES of each sort lie ahead of it to where it goes. */
    private static final class Window {
        private final int[] ahead = new int[MOVE_KINDS];
        private int left = 0;
        private int right = -1;
        private int now = 0;
        private int ends = 0;
        private int turns = 0;
        private int cameTo = 0;

        void begin() {
            left = 0;
            right = -1;
            now = 0;
            ends = 0;
            turns = 0;
            cameTo = 0;
        }

        boolean has(int i) {
            return left <= i && i <= right;
        }

        int cost(int weight) {
            return ends + weight * turns;
        }

        void aim(int first, int last, int time) {
            ahead[LEFT_DOWN] = Math.max(0, left - first);
            ahead[RIGHT_UP] = Math.max(0, last - right);
            ahead[LEFT_UP] = Math.max(0, first - left);
            ahead[RIGHT_DOWN] = Math.max(0, right - last);
            ahead[CHANGE_DONE] = Math.max(0, time - now);
            ahead[CHANGE_UNDONE] = Math.max(0, now - time);
        }

        int distance() {
            int distance = 0;
            for (int kind = 0; kind < MOVE_KINDS; kind++) {
                distance += ahead[kind];
            }
            return distance;
        }

        int nextKind() {
            for (int kind = 0; kind < MOVE_KINDS; kind++) {
                if (ahead[kind] > 0) {
                    return kind;
                }
            }
            return NONE;
        }

        /** Makes as many as that of the MOVES that lie ahead: how many it made. */
        int make(int limit) {
            int made = 0;
            for (int kind = 0; kind < MOVE_KINDS; kind++) {
                int part = Math.min(ahead[kind], limit - made);
                ahead[kind] -= part;
                made += shift(kind, part);
            }
            return made;
        }

        int shift(int kind, int steps) {
            switch (kind) {
                case LEFT_DOWN:
                    left -= steps;
                    break;
                case RIGHT_UP:
                    right += steps;
                    break;
                case LEFT_UP:
                    left += steps;
                    break;
                case RIGHT_DOWN:
                    right -= steps;
                    break;
                case CHANGE_DONE:
                    now += steps;
                    break;
                default:
                    now -= steps;
                    break;
            }
            if (kind == CHANGE_DONE || kind == CHANGE_UNDONE) {
                turns += steps;
            } else {
                ends += steps;
            }
            return steps;
        }

        /** The CELL or the CHANGE that a MOVE from here on is of. */
        int movedBy(int kind) {
            switch (kind) {
                case LEFT_DOWN:
                    return left - 1;
                case RIGHT_UP:
                    return right + 1;
                case LEFT_UP:
                    return left;
                case RIGHT_DOWN:
                    return right;
                case CHANGE_DONE:
                    return now;
                default:
                    return now - 1;
            }
        }
    }

    /** THE PLAN parted among WORKERS. */
    private static final class Split {
        /** More than any COST. */
        private static final int IMPOSSIBLE = 1000000000;

        private final int[] anew = new int[MOST_QUESTIONS + 1];
        private final int[] onward = new int[MOST_QUESTIONS + 1];
        private final int[][] least = new int[MOST_WORKERS + 1][MOST_QUESTIONS + 2];
        private final Window fresh = new Window();
        private int size;

        /** COSTS to each QUESTION of THE PLAN, as the first one of a WINDOW and along the whole of it. */
        void measure(Plan plan, Questions questions, int weight) {
            size = Math.min(plan.sorted.size, MOST_QUESTIONS);
            plan.probe.begin();
            for (int i = 0; i < size; i++) {
                int q = plan.sorted.question(i);
                fresh.begin();
                questions.aim(fresh, q);
                fresh.make(fresh.distance());
                anew[i] = fresh.cost(weight);
                questions.aim(plan.probe, q);
                plan.probe.make(plan.probe.distance());
                onward[i] = plan.probe.cost(weight);
            }
        }

        private int costOfRow(int from, int to) {
            if (from < 0 || from >= to || to > size) {
                return 0;
            }
            return anew[from] + onward[to - 1] - onward[from];
        }

        /** For as many WORKERS as that, and fewer: the least greatest COST of all from each QUESTION on. */
        void solve(int k) {
            for (int from = 0; from <= size; from++) {
                least[0][from] = from == size ? 0 : IMPOSSIBLE;
            }
            for (int hands = 1; hands <= k && hands <= MOST_WORKERS; hands++) {
                for (int from = 0; from <= size; from++) {
                    least[hands][from] = leastFrom(hands, from);
                }
            }
        }

        private int leastFrom(int hands, int from) {
            int best = IMPOSSIBLE;
            for (int to = from; to <= size; to++) {
                best = Math.min(best, Math.max(costOfRow(from, to), least[hands - 1][to]));
            }
            return best;
        }

        int greatest(int k) {
            return k >= 0 && k <= MOST_WORKERS ? least[k][0] : NONE;
        }

        /** How many QUESTIONS a WORKER (from 1) has, if each one in turn takes as many as it may. */
        int share(int k, int worker) {
            int limit = greatest(k);
            int from = 0;
            int taken = 0;
            for (int w = 1; w <= worker && w <= k; w++) {
                int to = furthest(from, k - w, limit);
                taken = to - from;
                from = to;
            }
            return taken;
        }

        private int furthest(int from, int hands, int limit) {
            for (int to = size; to > from; to--) {
                if (costOfRow(from, to) <= limit && least[hands][to] <= limit) {
                    return to;
                }
            }
            return from;
        }
    }

    /** THE UNDOING of a BLOCK. */
    private static final class Undoing {
        private final Sorted sorted = new Sorted();
        private int adds;
        private int groups;
        private int deepest;

        void lay(Questions questions, int b) {
            sorted.size = 0;
            if (b < 1) {
                return;
            }
            for (int q = 0; q < questions.size; q++) {
                if (!questions.isPlanned(q)) {
                    sorted.insert(Sorted.key(questions.time[q], questions.first[q] / b, questions.last[q], q));
                }
            }
        }

        void follow(Questions questions, int b, int cells) {
            adds = 0;
            groups = 0;
            deepest = 0;
            int border = 0;
            int next = 0;
            for (int i = 0; i < sorted.size && b > 0; i++) {
                int q = sorted.question(i);
                if (!sorted.goesOn(i)) {
                    groups++;
                    border = Math.min(cells, questions.first[q] / b * b + b);
                    next = border;
                }
                next = come(questions.first[q], questions.last[q], border, next);
            }
        }

        /** CELLS from the border to ahead of next are there: one QUESTION's come, up to where they stay then. */
        private int come(int first, int last, int border, int next) {
            if (last < border) {
                adds += last - first + 1;
                deepest = Math.max(deepest, last - first + 1);
                return next;
            }
            int behind = Math.max(next, last + 1);
            adds += behind - next + border - first;
            deepest = Math.max(deepest, behind - first);
            return behind;
        }
    }

    /** The last ACTS, in a ring, each with what was there ahead of it. */
    private static final class Acts {
        private final int[] kind = new int[MOST_ACTS];
        private final int[][] was = new int[MOST_ACTS][4];
        private int size;
        private int next;

        void note(int itsKind, int a, int b, int c, int d) {
            kind[next] = itsKind;
            int[] old = was[next];
            old[0] = a;
            old[1] = b;
            old[2] = c;
            old[3] = d;
            next = (next + 1) % MOST_ACTS;
            size = Math.min(size + 1, MOST_ACTS);
        }

        /** Where in the ring the last one is, which is forgotten then; NONE: there is none. */
        int takeLast() {
            if (size == 0) {
                return NONE;
            }
            size--;
            next = (next + MOST_ACTS - 1) % MOST_ACTS;
            return next;
        }
    }

    /** THE TAPE, and THE TEXT read into a ROW and QUESTIONS apart, so that a FAULT leaves all as it is. */
    private static final class Reader {
        private static final int LONGEST_WORD = 7;
        private static final int LONGEST_WHOLE = 2;

        private static final int FORM = 1;
        private static final int BOUNDS = 2;
        private static final int SECOND_ROW = 3;
        private static final int MANY = 4;
        private static final int LACKS = 5;

        private static final int END = 0;
        private static final int WORD = 1;
        private static final int WHOLE = 2;
        private static final int SEMICOLON = 3;
        private static final int COMMA = 4;
        private static final int NO_TOKEN = 5;

        private final byte[] tape = new byte[MOST_BYTES];
        private final Row row = new Row();
        private final Questions questions = new Questions();
        private int size;
        private int end;
        private int sort;
        private int place;
        private int behind;
        private int value;
        private int fault;

        void put(int number) {
            for (int shift = 24; shift >= 0; shift -= 8) {
                if (size < MOST_BYTES) {
                    tape[size] = (byte) (number >> shift);
                    size++;
                }
            }
        }

        /** How many LINES the first n bytes have, or what text() answers for their FAULT. */
        int read(int n) {
            row.clear();
            questions.size = 0;
            end = Math.min(n, size);
            behind = 0;
            next();
            for (int lines = 1; lines <= MOST_BYTES; lines++) {
                if (!readLine()) {
                    return fault;
                }
                if (sort == END) {
                    return lines;
                }
                if (!pass(SEMICOLON)) {
                    return fault;
                }
            }
            return fault;
        }

        private boolean readLine() {
            if (isWord("row")) {
                return readRow();
            }
            if (isWord("set")) {
                return readSet();
            }
            return isWord("ask") ? readAsk() : refuse(FORM);
        }

        private boolean readRow() {
            if (row.size > 0) {
                return refuse(SECOND_ROW);
            }
            next();
            boolean right = readCell();
            for (int cells = 1; right && sort == COMMA && cells <= MOST_CELLS; cells++) {
                next();
                right = readCell();
            }
            if (right && row.size < LEAST_CELLS && (sort == SEMICOLON || sort == END)) {
                return refuse(LACKS);
            }
            return right;
        }

        private boolean readCell() {
            if (!isWhole(0, NUMBERS - 1)) {
                return false;
            }
            if (!row.hasRoomForCell()) {
                return refuse(MANY);
            }
            row.addCell(value);
            next();
            return true;
        }

        private boolean readSet() {
            if (row.size == 0) {
                return refuse(LACKS);
            }
            if (!row.hasRoomForChange()) {
                return refuse(MANY);
            }
            next();
            if (!isWhole(0, row.size - 1)) {
                return false;
            }
            int i = value;
            next();
            if (!isWhole(0, NUMBERS - 1)) {
                return false;
            }
            row.addChange(i, value);
            next();
            return true;
        }

        private boolean readAsk() {
            if (row.size == 0) {
                return refuse(LACKS);
            }
            if (questions.size >= MOST_QUESTIONS) {
                return refuse(MANY);
            }
            next();
            int kind = kindHere();
            if (kind == NONE) {
                return refuse(FORM);
            }
            next();
            if (!isWhole(0, row.size - 1)) {
                return false;
            }
            int first = value;
            next();
            if (!isWhole(first, row.size - 1)) {
                return false;
            }
            int last = value;
            next();
            return readTime(kind, first, last);
        }

        private boolean readTime(int kind, int first, int last) {
            int time = row.changes;
            if (isWord("at")) {
                next();
                if (!isWhole(0, row.changes)) {
                    return false;
                }
                time = value;
                next();
            }
            questions.add(kind, first, last, time);
            return true;
        }

        private int kindHere() {
            if (isWord("sum")) {
                return SUM;
            }
            if (isWord("unlike")) {
                return UNLIKE;
            }
            if (isWord("often")) {
                return OFTEN;
            }
            if (isWord("which")) {
                return WHICH;
            }
            if (isWord("power")) {
                return POWER;
            }
            if (isWord("missing")) {
                return MISSING;
            }
            if (isWord("parts")) {
                return PARTS;
            }
            return isWord("pairs") ? PAIRS : NONE;
        }

        private boolean refuse(int kind) {
            fault = -2 - (8 * place + kind);
            return false;
        }

        private boolean pass(int due) {
            if (sort != due) {
                return refuse(FORM);
            }
            next();
            return true;
        }

        private boolean isWhole(int least, int most) {
            if (sort != WHOLE) {
                return refuse(FORM);
            }
            return value >= least && value <= most || refuse(BOUNDS);
        }

        private boolean isWord(String word) {
            if (sort != WORD || behind - place != word.length()) {
                return false;
            }
            for (int i = 0; i < word.length(); i++) {
                if (byteAt(place + i) != word.charAt(i)) {
                    return false;
                }
            }
            return true;
        }

        /** Goes on to the next TOKEN; a run of letters or digits that is too long is none. */
        private void next() {
            place = behind;
            while (place < end && isBlank(byteAt(place))) {
                place++;
            }
            behind = Math.min(place + 1, end);
            int here = byteAt(place);
            if (place >= end) {
                sort = END;
            } else if (here == ';') {
                sort = SEMICOLON;
            } else if (here == ',') {
                sort = COMMA;
            } else if (isLetter(here)) {
                readWord();
            } else if (isDigit(here)) {
                readWhole();
            } else {
                sort = NO_TOKEN;
            }
        }

        private void readWord() {
            while (behind < end && isLetter(byteAt(behind))) {
                behind++;
            }
            sort = behind - place <= LONGEST_WORD ? WORD : NO_TOKEN;
        }

        private void readWhole() {
            value = byteAt(place) - '0';
            while (behind < end && isDigit(byteAt(behind))) {
                value = 10 * value + byteAt(behind) - '0';
                behind++;
            }
            sort = behind - place <= LONGEST_WHOLE ? WHOLE : NO_TOKEN;
        }

        private int byteAt(int i) {
            return i >= 0 && i < end && i < MOST_BYTES ? tape[i] : NONE;
        }

        private static boolean isBlank(int b) {
            return b == ' ' || b == '\n';
        }

        private static boolean isLetter(int b) {
            return b >= 'a' && b <= 'z';
        }

        private static boolean isDigit(int b) {
            return b >= '0' && b <= '9';
        }
    }
}
