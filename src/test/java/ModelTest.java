import java.util.NoSuchElementException;
import java.util.Random;

/** Many runs of calls, picked by fixed seeds, on the class and on the model: each answer must be the same. */
public final class ModelTest {
    private static final int RUNS = 400;
    private static final int STEPS = 500;
    /** An object may be used for 512 calls; a step makes 32 at most: 30 of feed(), text(), and one to spare. */
    private static final int CALLS = 512 - 32;
    private static final int[] EDGES =
        {Integer.MIN_VALUE, -100000, -64, -2, -1, 0, 1, 2, 23, 24, 25, 31, 32, 33, 59, 60, 61, 63, 64, 65, 400, 401,
            600, 601, Integer.MAX_VALUE - 1, Integer.MAX_VALUE};
    private static final String[] KINDS =
        {"sum", "unlike", "often", "which", "power", "missing", "parts", "pairs"};

    private final Check check = new Check();
    private Random random;
    private RangePlanner x;
    private Model model;
    /** How wide the numbers of this run are: few unlike ones make ties, many make none. */
    private int numbers;
    /** Whether this run asks for THE PLAN alone and drops little, so that it fills. */
    private boolean fills;
    private String log;
    private int calls;

    public static void main(String[] args) {
        new ModelTest().run();
    }

    private void run() {
        for (int seed = 1; seed <= RUNS && check.isClean(); seed++) {
            random = new Random(seed);
            x = new RangePlanner();
            model = new Model();
            numbers = new int[] {2, 5, 12, 64}[random.nextInt(4)];
            fills = random.nextInt(5) == 0;
            log = "";
            calls = 0;
            check.about("seed " + seed);
            if (random.nextInt(4) > 0) {
                tell(textOf(2 + random.nextInt(40), random.nextInt(20), random.nextInt(20)));
            }
            for (int step = 0; step < STEPS && calls < CALLS && check.isClean(); step++) {
                callOne();
            }
        }
        if (!check.isClean()) {
            System.out.println(log);
        }
        check.finish();
    }

    private int below(int bound) {
        return random.nextInt(Math.max(1, bound));
    }

    private int number() {
        return below(numbers);
    }

    /** Mostly what is allowed, at times a number that stands at or far behind an edge. */
    private int mostly(int usual) {
        return random.nextInt(25) == 0 ? EDGES[below(EDGES.length)] : usual;
    }

    private int block() {
        return mostly(random.nextBoolean() ? 1 + below(8) : 1 + below(60));
    }

    private String textOf(int cells, int changes, int questions) {
        StringBuilder sb = new StringBuilder("row " + number());
        for (int i = 1; i < cells; i++) {
            sb.append(',').append(number());
        }
        int set = 0;
        int asked = 0;
        while ((set < changes || asked < questions) && sb.length() < 540) {
            if (set < changes && random.nextInt(3) == 0 || asked == questions) {
                sb.append(";set ").append(below(cells)).append(' ').append(number());
                set++;
            } else {
                int first = below(cells);
                sb.append(random.nextInt(3) == 0 ? " ;\n " : ";").append("ask ").append(KINDS[below(8)]).append(' ')
                    .append(first).append(' ').append(first + below(cells - first));
                if (random.nextBoolean()) {
                    sb.append(" at ").append(below(set + 1));
                }
                asked++;
            }
        }
        return sb.toString();
    }

    private String spoilt(String text) {
        StringBuilder sb = new StringBuilder(text);
        String[] parts = {";", ",", " ", "\n", "row", "set", "ask", "at", "sum", "missing", "missings", "7", "64",
            "100", "0", "A", "\u00e9", "-", "x", "at 9", ";row 1,2", ";set 0 0", ";ask sum 0 0"};
        for (int times = 1 + below(3); times > 0; times--) {
            int place = below(sb.length() + 1);
            int gone = Math.min(below(4), sb.length() - place);
            sb.replace(place, place + gone, random.nextBoolean() ? "" : parts[below(parts.length)]);
        }
        return sb.substring(0, Math.min(sb.length(), 600));
    }

    private void tell(String text) {
        byte[] bytes = Check.bytes(text);
        for (int from = 0; from < bytes.length; from += 20) {
            feed(Check.numbers(bytes, from));
        }
        text(bytes.length);
    }

    private void due(String call, long got, long want) {
        calls++;
        log += call + " -> " + got + "\n";
        check.due(call, got, want);
    }

    private void feed(int[] n) {
        due("feed(" + n[0] + ", " + n[1] + ", " + n[2] + ", " + n[3] + ", " + n[4] + ")",
            x.feed(n[0], n[1], n[2], n[3], n[4]), model.feed(n));
    }

    private void text(int n) {
        due("text(" + n + ")", x.text(n), model.text(n));
    }

    private void answer(int q) {
        long got = Long.MIN_VALUE;
        long want = Long.MIN_VALUE;
        try {
            got = x.answer(q);
        } catch (NoSuchElementException e) {
            log += "throws ";
        }
        try {
            want = model.answer(q);
        } catch (NoSuchElementException e) {
            log += "due to throw ";
        }
        due("answer(" + q + ")", got, want);
    }

    private void ask(boolean really) {
        int first = below(model.cells());
        int last = mostly(first + below(model.cells() - first));
        first = mostly(first);
        int kind = mostly(fills ? new int[] {0, 1, 4, 5, 7}[below(5)] : below(8));
        int time = mostly(below(model.changes() + 2) - 1);
        String with = "(" + kind + ", " + first + ", " + last + ", " + time + ")";
        if (really) {
            due("ask" + with, x.ask(kind, first, last, time), model.ask(kind, first, last, time));
        } else {
            due("would" + with, x.would(kind, first, last, time), model.would(kind, first, last, time));
        }
    }

    private void callOne() {
        if (random.nextInt(2) == 0) {
            change();
        } else {
            look();
        }
    }

    private void change() {
        int i = mostly(below(model.cells()));
        int v = mostly(number());
        int b = block();
        int o = mostly(below(3));
        switch (below(24)) {
            case 0:
            case 1:
                due("cell(" + i + ", " + v + ")", x.cell(i, v), model.cell(i, v));
                break;
            case 2:
            case 3:
                due("change(" + i + ", " + v + ")", x.change(i, v), model.change(i, v));
                break;
            case 4:
            case 5:
            case 6:
            case 7:
                ask(true);
                break;
            case 8:
            case 9:
                if (!fills || random.nextInt(8) == 0) {
                    due("drop()", x.drop(), model.drop());
                }
                break;
            case 10:
                int w = mostly(below(10));
                due("weight(" + w + ")", x.weight(w), model.weight(w));
                break;
            case 11:
                due("set(" + o + ", " + b + ")", x.set(o, b), model.set(o, b));
                break;
            case 12:
            case 13:
            case 14:
            case 15:
                if (fills && random.nextInt(4) > 0) {
                    break;
                }
                due("back()", x.back() ? 1 : 0, model.back());
                break;
            case 16:
                tellOrFeed();
                break;
            case 17:
                if (random.nextInt(3) == 0) {
                    due("home()", x.home(), model.home());
                }
                break;
            default:
                int n = mostly(random.nextInt(6) == 0 ? 1 + below(400) : 1 + below(12));
                due("walk(" + n + ")", x.walk(n), model.walk(n));
                break;
        }
    }

    private void tellOrFeed() {
        String text = textOf(2 + below(59), below(34), below(26));
        switch (below(12)) {
            case 0:
                tell(text);
                break;
            case 1:
            case 2:
            case 3:
            case 4:
            case 5:
                tell(spoilt(text));
                break;
            case 6:
                text(mostly(below(model.bytes() + 2)));
                break;
            default:
                feed(new int[] {random.nextInt(), 0x20202020, 0x726f7720, random.nextInt(), 1});
                break;
        }
    }

    private void look() {
        int i = mostly(below(model.cells()));
        int v = mostly(number());
        int q = mostly(below(model.questions() + 1));
        int b = block();
        int o = mostly(below(3));
        int what = mostly(below(8));
        switch (below(18)) {
            case 0:
                answer(q);
                break;
            case 1:
                int time = mostly(below(model.changes() + 1));
                due("at(" + i + ", " + time + ")", x.at(i, time), model.at(i, time));
                break;
            case 2:
                due("of(" + q + ", " + what + ")", x.of(q, what), model.of(q, what));
                break;
            case 3:
                due("planned(" + o + ", " + b + ", " + (q - 1) + ")", x.planned(o, b, q - 1), model.planned(o, b, q - 1));
                break;
            case 4:
                due("moves(" + o + ", " + b + ", " + what + ")", x.moves(o, b, what), model.moves(o, b, what));
                break;
            case 5:
                if (random.nextInt(4) == 0) {
                    int w = mostly(below(2));
                    due("best(" + o + ", " + w + ")", x.best(o, w), model.best(o, w));
                }
                break;
            case 6:
                int k = mostly(1 + below(4));
                int worker = mostly(below(6));
                due("split(" + k + ", " + worker + ")", x.split(k, worker), model.split(k, worker));
                break;
            case 7:
            case 8:
                int m = mostly(random.nextBoolean() ? below(40) : below(400));
                int of = mostly(below(3));
                due("move(" + m + ", " + of + ")", x.move(m, of), model.move(m, of));
                break;
            case 9:
                due("saves(" + q + ")", x.saves(q), model.saves(q));
                break;
            case 10:
                ask(false);
                break;
            case 11:
                due("undone(" + b + ", " + (q - 1) + ")", x.undone(b, q - 1), model.undone(b, q - 1));
                break;
            case 12:
                int a = mostly(below(3));
                due("adds(" + b + ", " + a + ")", x.adds(b, a), model.adds(b, a));
                break;
            case 13:
                due("window(" + what + ")", x.window(what), model.window(what));
                break;
            case 14:
                due("holds(" + v + ")", x.holds(v), model.holds(v));
                break;
            case 15:
                due("tells(" + what + ")", x.tells(what), model.tells(what));
                break;
            case 16:
                due("touched(" + i + ", " + v + ")", x.touched(i, v), model.touched(i, v));
                break;
            default:
                int c = mostly(below(11));
                due("count(" + c + ")", x.count(c), model.count(c));
                break;
        }
    }
}
