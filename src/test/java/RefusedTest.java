/**
 * Calls that are refused, and calls that only look: behind each one an object answers as its twin does that was not
 * called so, also behind some BACKS and a WALK.
 */
public final class RefusedTest {
    private static final int MIN = Integer.MIN_VALUE;
    private static final int MAX = Integer.MAX_VALUE;
    private static final int NONE = RangePlanner.NONE;
    private static final int NO_DIFFERENCE = -100000;
    private static final int[] FAR = {MIN, MIN + 1, -100000, -2, 1000, MAX - 1, MAX};

    /** How many ACTS are taken BACK behind a call: none, one, all, and one more than there can be. */
    private static final int[] BACKS = {0, 1, 12, 13};

    private interface Made {
        RangePlanner anew();
    }

    private interface Call {
        long on(RangePlanner x);
    }

    private final Check check = new Check();

    public static void main(String[] args) {
        RefusedTest all = new RefusedTest();
        all.feed();
        all.text();
        all.cell();
        all.change();
        all.ask();
        all.drop();
        all.weight();
        all.set();
        all.back();
        all.answer();
        all.atAndOf();
        all.planned();
        all.movesAndBest();
        all.split();
        all.move();
        all.savesAndWould();
        all.theUndoing();
        all.walk();
        all.windowHoldsTells();
        all.touchedAndCount();
        all.looks();
        all.check.finish();
    }

    /** Six CELLS, some ACTS, 40 bytes on THE TAPE; the WINDOW has CELLS 0 to 2 on its way. */
    private static RangePlanner onTheWay() {
        RangePlanner x = Look.told("row 1,5,5,2,0,3;set 2 9;ask sum 1 3;ask often 0 5");
        x.cell(5, 4);
        x.change(4, 7);
        x.ask(1, 2, 5, 2);
        x.ask(7, 0, 0, 0);
        x.drop();
        x.weight(3);
        x.set(0, 2);
        x.feed(1, 2, 3, 4, 5);
        x.feed(0x726f7720, 0x312c3220, 0x20202020, 0x20202020, 0x20202020);
        x.walk(3);
        return x;
    }

    /** Fewer QUESTIONS than the WINDOW came to. */
    private static RangePlanner cameToMore() {
        RangePlanner x = Look.told("row 1,5,5,2,0,3;set 2 9");
        x.ask(0, 0, 1, 0);
        x.ask(0, 0, 4, 1);
        x.ask(0, 2, 4, 1);
        x.walk(400);
        x.drop();
        x.drop();
        return x;
    }

    private void everywhere(String call, Call it, long want) {
        alike("a new object, " + call, RangePlanner::new, it, want);
        alike("on the way, " + call, RefusedTest::onTheWay, it, want);
        alike("came to more, " + call, RefusedTest::cameToMore, it, want);
        alike("full, " + call, Look::full, it, want);
    }

    private void alike(String call, Made made, Call it, long want) {
        for (int backs : BACKS) {
            RangePlanner called = made.anew();
            RangePlanner twin = made.anew();
            check.due(call, it.on(called), want);
            for (int k = 0; k < backs; k++) {
                check.due(call + ", then back()", called.back(), twin.back());
            }
            check.dueRow(call + ", all of it behind " + backs, Look.all(called), Look.all(twin));
            check.due(call + ", then walk()", called.walk(5), twin.walk(5));
            check.dueRow(call + ", then walk()", Look.window(called), Look.window(twin));
        }
    }

    private void feed() {
        check.about("2 \"NONE, and none come, if it would have more than 600\"");
        alike("feed", Look::full, x -> x.feed(0x726f7720, 0x312c3220, -1, MIN, MAX), NONE);
        alike("feed", Look::full, x -> x.feed(0, 0, 0, 0, 0), NONE);
    }

    private void text() {
        check.about("3 \"NONE: it has not so many, n is below 0 (THE TAPE stays)\"");
        for (int n : new int[] {MIN, -600, -2, -1, 601, 620, MAX}) {
            everywhere("text(" + n + ")", x -> x.text(n), NONE);
        }
        alike("one more than it has", RangePlanner::new, x -> x.text(1), NONE);
        alike("one more than it has", RefusedTest::onTheWay, x -> x.text(41), NONE);
        check.about("3 \"a FAULT (all else stays)\"");
        Made emptied = () -> {
            RangePlanner x = onTheWay();
            x.text(0);
            return x;
        };
        check.due("THE TAPE is empty", emptied.anew().count(10), 0);
        String[] texts = {"", " ", "row 1", "row 1,2;", "row 1,2;set 0 64", "row 1,2;row 3,4", "set 0 0", "rows 1,2",
            "row 9,8,7;set 0 6;ask sum 0 1;ask sum 0 3", "row 9,8" + ",7".repeat(59), "row 9,8;ask sum 0 1 at 1"};
        for (String text : texts) {
            check.due("\"" + text + "\"", Check.tell(emptied.anew(), text) < -2, true);
            alike("\"" + text + "\"", emptied, x -> Check.tell(x, text), Check.tell(new RangePlanner(), text));
        }
    }

    private void cell() {
        check.about("4 \"NONE: others\"");
        for (int far : FAR) {
            everywhere("cell(far, 1)", x -> x.cell(far, 1), NONE);
            everywhere("cell(0, far)", x -> x.cell(0, far), NONE);
        }
        everywhere("cell(-1, 1)", x -> x.cell(-1, 1), NONE);
        everywhere("cell(60, 1)", x -> x.cell(60, 1), NONE);
        everywhere("the last number less", x -> x.cell(x.count(0) - 1, -1), NONE);
        everywhere("the last number more", x -> x.cell(x.count(0) - 1, 64), NONE);
        alike("a CELL behind the last", RangePlanner::new, x -> x.cell(16, 1), NONE);
        alike("a CELL behind the last", RefusedTest::onTheWay, x -> x.cell(6, 1), NONE);
        check.about("4 \"NONE: .. it is so\"");
        everywhere("the last CELL", x -> x.cell(x.count(0) - 1, x.at(x.count(0) - 1, 0)), NONE);
        check.about("4 \"NONE: .. the WINDOW has it (from LEFT to RIGHT)\"");
        for (int i = 0; i <= 2; i++) {
            int held = i;
            alike("cell(" + held + ", 60)", RefusedTest::onTheWay, x -> x.cell(held, 60), NONE);
        }
        check.due("CELL 3 it has not", onTheWay().cell(3, 60), 2);
    }

    private void change() {
        check.about("5 \"NONE: others\"");
        for (int far : FAR) {
            everywhere("change(far, 1)", x -> x.change(far, 1), NONE);
            everywhere("change(0, far)", x -> x.change(0, far), NONE);
        }
        everywhere("change(-1, 1)", x -> x.change(-1, 1), NONE);
        everywhere("change(60, 1)", x -> x.change(60, 1), NONE);
        everywhere("change(0, -1)", x -> x.change(0, -1), NONE);
        everywhere("change(0, 64)", x -> x.change(0, 64), NONE);
        alike("a CELL behind the last", RangePlanner::new, x -> x.change(16, 1), NONE);
        alike("a CELL behind the last", RefusedTest::onTheWay, x -> x.change(6, 1), NONE);
        check.about("5 \"NONE: .. 32 there are\"");
        alike("change(0, 1)", Look::full, x -> x.change(0, 1), NONE);
        alike("change(59, 63)", Look::full, x -> x.change(59, 63), NONE);
    }

    private void ask() {
        check.about("6 \"NONE: others (first above last, a TIME of more CHANGES than there are)\"");
        for (int far : FAR) {
            everywhere("ask(far, 0, 1, 0)", x -> x.ask(far, 0, 1, 0), NONE);
            everywhere("ask(0, far, 1, 0)", x -> x.ask(0, far, 1, 0), NONE);
            everywhere("ask(0, 0, far, 0)", x -> x.ask(0, 0, far, 0), NONE);
            everywhere("ask(0, 0, 1, far)", x -> x.ask(0, 0, 1, far), NONE);
        }
        everywhere("ask(-1, 0, 1, 0)", x -> x.ask(-1, 0, 1, 0), NONE);
        everywhere("ask(8, 0, 1, 0)", x -> x.ask(8, 0, 1, 0), NONE);
        everywhere("ask(0, -1, 1, 0)", x -> x.ask(0, -1, 1, 0), NONE);
        everywhere("ask(0, 0, -1, 0)", x -> x.ask(0, 0, -1, 0), NONE);
        everywhere("ask(0, -1, -1, 0)", x -> x.ask(0, -1, -1, 0), NONE);
        everywhere("ask(0, 1, 0, 0)", x -> x.ask(0, 1, 0, 0), NONE);
        everywhere("a last one behind all", x -> x.ask(0, 0, x.count(0), 0), NONE);
        everywhere("both behind all", x -> x.ask(0, x.count(0), x.count(0), 0), NONE);
        everywhere("a TIME too late", x -> x.ask(0, 0, 1, x.count(1) + 1), NONE);
        check.about("6 \"NONE: .. 24 there are\"");
        alike("ask(0, 0, 1, 0)", Look::full, x -> x.ask(0, 0, 1, 0), NONE);
        alike("ask(7, 59, 59, NONE)", Look::full, x -> x.ask(7, 59, 59, NONE), NONE);
        alike("of a KIND of THE UNDOING", Look::full, x -> x.ask(2, 0, 59, 32), NONE);
    }

    private void drop() {
        check.about("7 \"NONE: there is none\"");
        Made none = () -> {
            RangePlanner x = cameToMore();
            x.drop();
            return x;
        };
        alike("drop", RangePlanner::new, x -> x.drop(), NONE);
        alike("drop behind the last", none, x -> x.drop(), NONE);
    }

    private void weight() {
        check.about("8 \"NONE: others\"");
        for (int w : new int[] {MIN, -9, -1, 10, 64, MAX}) {
            everywhere("weight(" + w + ")", x -> x.weight(w), NONE);
        }
    }

    private void set() {
        check.about("9 \"NONE: others\"");
        for (int far : FAR) {
            everywhere("set(far, 1)", x -> x.set(far, 1), NONE);
            everywhere("set(0, far)", x -> x.set(0, far), NONE);
        }
        everywhere("set(-1, 1)", x -> x.set(-1, 1), NONE);
        everywhere("set(3, 60)", x -> x.set(3, 60), NONE);
        everywhere("set(2, 0)", x -> x.set(2, 0), NONE);
        everywhere("set(2, -1)", x -> x.set(2, -1), NONE);
        everywhere("set(2, 61)", x -> x.set(2, 61), NONE);
    }

    private void back() {
        check.about("10 \"false: nothing can be\"");
        Made afterText = () -> {
            RangePlanner x = onTheWay();
            x.feed(0, 0, 0, 0, 0);
            x.text(0);
            Check.tell(x, "row 4,5,6;set 0 1;ask sum 0 2");
            x.walk(2);
            return x;
        };
        Made afterAll = () -> {
            RangePlanner x = Look.full();
            for (int k = 0; k < 12; k++) {
                x.back();
            }
            return x;
        };
        alike("at first", RangePlanner::new, x -> x.back() ? 1 : 0, 0);
        alike("behind a text", afterText, x -> x.back() ? 1 : 0, 0);
        alike("behind twelve", afterAll, x -> x.back() ? 1 : 0, 0);
    }

    private void answer() {
        check.about("11 \"NoSuchElementException: none such\"");
        for (int question : new int[] {MIN, -2, -1, 24, 25, MAX}) {
            everywhere("answer(" + question + ")", x -> Look.answer(x, question), MIN);
        }
        everywhere("behind the last", x -> Look.answer(x, x.count(2)), MIN);
    }

    private void atAndOf() {
        check.about("12 \"NONE: others\"");
        for (int far : FAR) {
            everywhere("at(far, 0)", x -> x.at(far, 0), NONE);
            everywhere("at(0, far)", x -> x.at(0, far), NONE);
        }
        everywhere("at(-1, 0)", x -> x.at(-1, 0), NONE);
        everywhere("at(0, -1)", x -> x.at(0, -1), NONE);
        everywhere("a CELL behind the last", x -> x.at(x.count(0), 0), NONE);
        everywhere("a TIME behind the last", x -> x.at(0, x.count(1) + 1), NONE);
        check.about("13 \"NONE: others\"");
        for (int far : FAR) {
            everywhere("of(far, 0)", x -> x.of(far, 0), NONE);
            everywhere("of(0, far)", x -> x.of(0, far), NONE);
        }
        for (int what = -1; what <= 6; what++) {
            int it = what;
            everywhere("of(-1, what)", x -> x.of(-1, it), NONE);
            everywhere("behind the last", x -> x.of(x.count(2), it), NONE);
        }
        everywhere("of(0, -1)", x -> x.of(0, -1), NONE);
        everywhere("of(0, 6)", x -> x.of(0, 6), NONE);
    }

    private void planned() {
        check.about("14 \"NONE: others, none such\"");
        for (int far : FAR) {
            everywhere("planned(far, 1, 0)", x -> x.planned(far, 1, 0), NONE);
            everywhere("planned(0, far, 0)", x -> x.planned(0, far, 0), NONE);
            everywhere("planned(0, 1, far)", x -> x.planned(0, 1, far), NONE);
        }
        for (int i = -1; i <= 0; i++) {
            int it = i;
            everywhere("planned(-1, 1, i)", x -> x.planned(-1, 1, it), NONE);
            everywhere("planned(3, 1, i)", x -> x.planned(3, 1, it), NONE);
            everywhere("planned(1, 0, i)", x -> x.planned(1, 0, it), NONE);
            everywhere("planned(1, -1, i)", x -> x.planned(1, -1, it), NONE);
            everywhere("planned(1, 61, i)", x -> x.planned(1, 61, it), NONE);
        }
        for (int order = 0; order < 3; order++) {
            int it = order;
            everywhere("behind the last", x -> x.planned(it, 4, x.planned(it, 4, NONE)), NONE);
        }
    }

    private void movesAndBest() {
        check.about("15 \"NONE: others (4: of ORDERS but 1)\"");
        for (int far : FAR) {
            everywhere("moves(far, 1, 0)", x -> x.moves(far, 1, 0), NONE);
            everywhere("moves(1, far, 0)", x -> x.moves(1, far, 0), NONE);
            everywhere("moves(1, 1, far)", x -> x.moves(1, 1, far), NONE);
        }
        for (int what = 0; what <= 4; what++) {
            int it = what;
            everywhere("moves(-1, 1, what)", x -> x.moves(-1, 1, it), NONE);
            everywhere("moves(3, 1, what)", x -> x.moves(3, 1, it), NONE);
            everywhere("moves(1, 0, what)", x -> x.moves(1, 0, it), NONE);
            everywhere("moves(1, 61, what)", x -> x.moves(1, 61, it), NONE);
        }
        for (int order = 0; order < 3; order++) {
            int it = order;
            everywhere("moves(order, 1, -1)", x -> x.moves(it, 1, -1), NONE);
            everywhere("moves(order, 1, 5)", x -> x.moves(it, 1, 5), NONE);
        }
        everywhere("moves(0, 4, 4)", x -> x.moves(0, 4, 4), NONE);
        everywhere("moves(2, 4, 4)", x -> x.moves(2, 4, 4), NONE);
        check.about("16 \"NONE: others\"");
        for (int far : FAR) {
            everywhere("best(far, 0)", x -> x.best(far, 0), NONE);
            everywhere("best(0, far)", x -> x.best(0, far), NONE);
        }
        everywhere("best(-1, 0)", x -> x.best(-1, 0), NONE);
        everywhere("best(3, 1)", x -> x.best(3, 1), NONE);
        everywhere("best(1, -1)", x -> x.best(1, -1), NONE);
        everywhere("best(1, 2)", x -> x.best(1, 2), NONE);
    }

    private void split() {
        check.about("17 \"NONE: others, of no such WORKER\"");
        for (int far : FAR) {
            everywhere("split(far, 0)", x -> x.split(far, 0), NONE);
            everywhere("split(2, far)", x -> x.split(2, far), NONE);
        }
        everywhere("split(-1, 0)", x -> x.split(-1, 0), NONE);
        everywhere("split(0, 0)", x -> x.split(0, 0), NONE);
        everywhere("split(5, 0)", x -> x.split(5, 0), NONE);
        everywhere("split(5, 5)", x -> x.split(5, 5), NONE);
        for (int k = 1; k <= 4; k++) {
            int it = k;
            everywhere("split(k, -1)", x -> x.split(it, -1), NONE);
            everywhere("split(k, k + 1)", x -> x.split(it, it + 1), NONE);
            everywhere("split(k, 5)", x -> x.split(it, 5), NONE);
        }
    }

    private void move() {
        check.about("18 \"NONE: others, none such\"");
        for (int what = -1; what <= 3; what++) {
            int it = what;
            for (int far : FAR) {
                if (far != 1000 || what < 0 || what > 2) {
                    everywhere("move(far, what)", x -> x.move(far, it), NONE);
                }
            }
            everywhere("move(-1, what)", x -> x.move(-1, it), NONE);
            everywhere("behind the last", x -> x.move(x.moves(x.count(4), x.count(5), 0)
                + x.moves(x.count(4), x.count(5), 1), it), NONE);
        }
        for (int far : FAR) {
            everywhere("move(0, far)", x -> x.move(0, far), NONE);
        }
        everywhere("move(0, -1)", x -> x.move(0, -1), NONE);
        everywhere("move(0, 3)", x -> x.move(0, 3), NONE);
    }

    private void savesAndWould() {
        check.about("19 \"-100000: none such\"");
        for (int question : new int[] {MIN, -2, -1, 24, 25, MAX}) {
            everywhere("saves(" + question + ")", x -> x.saves(question), NO_DIFFERENCE);
        }
        everywhere("behind the last", x -> x.saves(x.count(2)), NO_DIFFERENCE);
        check.about("20 \"-100000: others\"");
        for (int kind : new int[] {0, 2}) {
            for (int far : FAR) {
                everywhere("would(far, 0, 1, 0)", x -> x.would(far, 0, 1, 0), NO_DIFFERENCE);
                everywhere("would(kind, far, 1, 0)", x -> x.would(kind, far, 1, 0), NO_DIFFERENCE);
                everywhere("would(kind, 0, far, 0)", x -> x.would(kind, 0, far, 0), NO_DIFFERENCE);
                everywhere("would(kind, 0, 1, far)", x -> x.would(kind, 0, 1, far), NO_DIFFERENCE);
            }
            everywhere("would(kind, -1, 1, 0)", x -> x.would(kind, -1, 1, 0), NO_DIFFERENCE);
            everywhere("would(kind, 1, 0, 0)", x -> x.would(kind, 1, 0, 0), NO_DIFFERENCE);
            everywhere("a last one behind all", x -> x.would(kind, 0, x.count(0), 0), NO_DIFFERENCE);
            everywhere("a TIME too late", x -> x.would(kind, 0, 1, x.count(1) + 1), NO_DIFFERENCE);
        }
        everywhere("would(-1, 0, 1, 0)", x -> x.would(-1, 0, 1, 0), NO_DIFFERENCE);
        everywhere("would(8, 0, 1, 0)", x -> x.would(8, 0, 1, 0), NO_DIFFERENCE);
    }

    private void theUndoing() {
        check.about("21 \"NONE: others, none such\"");
        for (int b : new int[] {MIN, -1, 0, 61, MAX}) {
            everywhere("undone(" + b + ", NONE)", x -> x.undone(b, NONE), NONE);
            everywhere("undone(" + b + ", 0)", x -> x.undone(b, 0), NONE);
        }
        for (int far : FAR) {
            everywhere("undone(1, far)", x -> x.undone(1, far), NONE);
        }
        everywhere("behind the last", x -> x.undone(4, x.undone(4, NONE)), NONE);
        check.about("22 \"NONE: others\"");
        for (int what = 0; what <= 2; what++) {
            int it = what;
            for (int b : new int[] {MIN, -1, 0, 61, MAX}) {
                everywhere("adds(" + b + ", what)", x -> x.adds(b, it), NONE);
            }
        }
        for (int what : new int[] {MIN, -1, 3, MAX}) {
            everywhere("adds(1, " + what + ")", x -> x.adds(1, what), NONE);
            everywhere("adds(60, " + what + ")", x -> x.adds(60, what), NONE);
        }
    }

    private void walk() {
        check.about("23 \"NONE: others\"");
        for (int n : new int[] {MIN, -400, -1, 0, 401, 1000, MAX}) {
            everywhere("walk(" + n + ")", x -> x.walk(n), NONE);
        }
    }

    private void windowHoldsTells() {
        check.about("25 \"NONE: others\"");
        for (int what : new int[] {MIN, -2, -1, 8, 9, MAX}) {
            everywhere("window(" + what + ")", x -> x.window(what), NONE);
        }
        check.about("26 \"NONE: no such number\"");
        for (int v : new int[] {MIN, -64, -1, 64, 65, MAX}) {
            everywhere("holds(" + v + ")", x -> x.holds(v), NONE);
        }
        check.about("27 \"NONE: others\"");
        for (int kind : new int[] {MIN, -1, 2, 3, 6, 8, MAX}) {
            everywhere("tells(" + kind + ")", x -> x.tells(kind), NONE);
        }
    }

    private void touchedAndCount() {
        check.about("28 \"NONE: others\"");
        for (int far : FAR) {
            everywhere("touched(far, 0)", x -> x.touched(far, 0), NONE);
            everywhere("touched(0, far)", x -> x.touched(0, far), NONE);
        }
        everywhere("touched(-1, 0)", x -> x.touched(-1, 0), NONE);
        everywhere("touched(0, -1)", x -> x.touched(0, -1), NONE);
        everywhere("touched(0, 64)", x -> x.touched(0, 64), NONE);
        everywhere("a CELL behind the last", x -> x.touched(x.count(0), 0), NONE);
        check.about("29 \"NONE for another what\"");
        for (int what : new int[] {MIN, -2, -1, 11, 12, MAX}) {
            everywhere("count(" + what + ")", x -> x.count(what), NONE);
        }
    }

    /** Calls that only look, on each object at its edges; what they answer is other tests' matter. */
    private void looks() {
        check.about("looks leave all as it is");
        everywhere("planned, moves, best", x -> {
            for (int order = 0; order < 3; order++) {
                x.planned(order, 60, 0);
                x.moves(order, 1, 3);
                x.best(order, 0);
            }
            return 0;
        }, 0);
        everywhere("split, move", x -> {
            for (int k = 1; k <= 4; k++) {
                x.split(k, k);
                x.move(10 * k, 1);
            }
            return 0;
        }, 0);
        everywhere("saves, would", x -> {
            x.saves(0);
            for (int kind = 0; kind < 8; kind++) {
                x.would(kind, 0, x.count(0) - 1, NONE);
            }
            return 0;
        }, 0);
        everywhere("undone, adds", x -> {
            x.undone(60, 0);
            x.adds(1, 0);
            return x.count(11);
        }, NONE);
        everywhere("touched", x -> {
            for (int i = 0; i < x.count(0); i += 5) {
                x.touched(i, 63);
            }
            return 0;
        }, 0);
    }
}
