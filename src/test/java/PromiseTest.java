/** Each promise by hand: ordinary inputs, the edges that the document names, wrong inputs. */
public final class PromiseTest {
    private static final int MIN = Integer.MIN_VALUE;
    private static final int MAX = Integer.MAX_VALUE;
    private static final int NONE = RangePlanner.NONE;

    /** CELLS 1 5 5 2 0 3 at TIME 0; 1 5 9 2 0 3 at 1; 1 5 9 2 0 0 at 2. */
    private static final String SMALL = "row 1,5,5,2,0,3;set 2 9;set 5 0";

    private final Check check = new Check();

    public static void main(String[] args) {
        PromiseTest all = new PromiseTest();
        all.newObject();
        all.feed();
        all.textIsTold();
        all.textRefused();
        all.cell();
        all.change();
        all.ask();
        all.drop();
        all.weight();
        all.set();
        all.back();
        all.backTheLastTwelve();
        all.backAndTheWindow();
        all.answer();
        all.answersOfParts();
        all.at();
        all.of();
        all.plannedByBlocks();
        all.plannedByCurve();
        all.moves();
        all.best();
        all.split();
        all.aFullPlan();
        all.move();
        all.savesAndWould();
        all.undone();
        all.adds();
        all.walk();
        all.walkOverATellingAnew();
        all.doneOfAPlanThatShrinks();
        all.walkAlongAPlanThatShrank();
        all.walkBehindTheLastDrop();
        all.home();
        all.window();
        all.holdsAndTells();
        all.touched();
        all.count();
        all.check.finish();
    }

    private void due(String call, long got, long want) {
        check.due(call, got, want);
    }

    private static RangePlanner told(String text) {
        return Look.told(text);
    }

    private void dueRow(String call, int[] got, int... want) {
        check.dueRow(call, got, want);
    }

    private void newObject() {
        check.about("1 a new object");
        RangePlanner x = new RangePlanner();
        due("NONE", RangePlanner.NONE, -1);
        due("CELLS", x.count(0), 16);
        due("CHANGES", x.count(1), 0);
        due("QUESTIONS", x.count(2), 0);
        due("bytes", x.count(10), 0);
        for (int i = 0; i < 16; i++) {
            due("at", x.at(i, 0), 0);
        }
        due("at behind the last", x.at(16, 0), NONE);
        dueRow("window", Look.window(x), 0, -1, 0, 0, NONE, 0, 0, 0);
        new RangePlanner().cell(0, 7);
        due("objects are apart", x.at(0, 0), 0);
    }

    private void feed() {
        check.about("2 feed");
        RangePlanner x = new RangePlanner();
        due("the highest byte first", Check.tell(x, "row 1,2,3,4,5;set 0 63"), 2);
        due("in their order", x.at(0, 1), 63);
        due("in their order", x.at(4, 0), 5);
        RangePlanner y = new RangePlanner();
        for (int k = 1; k <= 30; k++) {
            due("feed", y.feed(0x20202020, -1, 0, MIN, MAX), 20 * k);
        }
        due("feed beyond 600", y.feed(0, 0, 0, 0, 0), NONE);
        due("none came", y.count(10), 600);
        due("a byte 255 is no TOKEN", y.text(600), Check.fault(4, 1));
        due("a byte 0 is none either", feedAndRead(0x20202000, 4), Check.fault(3, 1));
    }

    private static int feedAndRead(int a, int n) {
        RangePlanner x = new RangePlanner();
        x.feed(a, 0, 0, 0, 0);
        return x.text(n);
    }

    private void textIsTold() {
        check.about("3 text");
        RangePlanner x = new RangePlanner();
        x.change(0, 1);
        x.ask(0, 0, 3, 0);
        x.weight(5);
        x.set(2, 9);
        x.walk(3);
        x.feed(0x726f7720, 0x312c327a, 0, 0, 0);
        due("bytes behind n are not read", x.text(7), 1);
        due("CELLS", x.count(0), 2);
        due("at(0, 0)", x.at(0, 0), 1);
        due("at(1, 0)", x.at(1, 0), 2);
        due("CHANGES", x.count(1), 0);
        due("QUESTIONS", x.count(2), 0);
        due("WEIGHT", x.count(3), 1);
        due("ORDER", x.count(4), 1);
        due("BLOCK", x.count(5), 4);
        due("ACTS", x.count(9), 0);
        due("THE TAPE is empty", x.count(10), 0);
        check.due("back", x.back(), false);
        dueRow("window", Look.window(x), 0, -1, 0, 0, NONE, 0, 0, 0);
        due("blanks", Check.tell(x, " \n row\n07 ,  8 ;ask\nsum 0 1 ; set 1 63;ask which 0 1;ask parts 0 0 at 0\n "), 5);
        due("07 is 7", x.at(0, 0), 7);
        due("TIME of none", x.of(0, 3), 0);
        due("TIME behind the CHANGES so far", x.of(1, 3), 1);
        due("TIME at", x.of(2, 3), 0);
        due("TOKENS need no blank", Check.tell(x, "row1,2;set1 3;ask sum0 1at0"), 3);
        String[] kinds = {"sum", "unlike", "often", "which", "power", "missing", "parts", "pairs"};
        for (int kind = 0; kind < 8; kind++) {
            due(kinds[kind], Check.tell(x, "row 1,2;ask " + kinds[kind] + " 0 1"), 2);
            due(kinds[kind], x.of(0, 0), kind);
        }
        due("60 CELLS", Check.tell(x, "row 63" + ",1".repeat(59)), 1);
        due("60 CELLS", x.count(0), 60);
        due("32 CHANGES", Check.tell(x, "row 1,2" + ";set 0 1".repeat(32)), 33);
        due("32 CHANGES", x.count(1), 32);
        due("24 QUESTIONS", Check.tell(x, "row 1,2" + ";ask sum 0 1".repeat(24)), 25);
        due("24 QUESTIONS", x.count(2), 24);
        due("600 bytes", Check.tell(x, "row 1,2;ask sum 0 1" + " ".repeat(581)), 2);
        due("600 bytes", Check.tell(x, " ".repeat(593) + "row 1,2"), 1);
        due("600 bytes", Check.tell(x, "row 1,2;ask" + " ".repeat(582) + "missing"), Check.fault(600, 1));
        due("600 bytes", Check.tell(x, " ".repeat(600)), Check.fault(600, 1));
        due("600 bytes", Check.tell(x, "row 1,2" + " ".repeat(592) + ";"), Check.fault(600, 1));
    }

    private void textRefused() {
        check.about("3 text, refused");
        RangePlanner x = told(SMALL + ";ask sum 1 3");
        x.weight(4);
        x.walk(2);
        x.feed(0x726f7720, 0x2020202c, 0, 0, 0);
        due("below 0", x.text(-1), NONE);
        due("below 0", x.text(MIN), NONE);
        due("not so many", x.text(21), NONE);
        due("not so many", x.text(MAX), NONE);
        due("THE TAPE stays", x.count(10), 20);
        due("a FAULT", x.text(20), Check.fault(7, 1));
        due("THE TAPE is empty", x.count(10), 0);
        due("CELLS stay", x.count(0), 6);
        due("CHANGES stay", x.count(1), 2);
        due("QUESTIONS stay", x.count(2), 1);
        due("WEIGHT stays", x.count(3), 4);
        due("ACTS stay", x.count(9), 1);
        due("the WINDOW stays", x.window(1), 1);
        due("at stays", x.at(2, 1), 9);
        check.due("back", x.back(), true);
        due("WEIGHT", x.count(3), 1);
    }

    private void cell() {
        check.about("4 cell");
        RangePlanner x = told(SMALL + ";ask sum 1 2 at 0");
        due("what it was", x.cell(0, 7), 1);
        due("at(0, 0)", x.at(0, 0), 7);
        due("at(0, 2)", x.at(0, 2), 7);
        due("it is so", x.cell(0, 7), NONE);
        due("of a CELL that is changed later", x.cell(2, 9), 5);
        due("at(2, 0)", x.at(2, 0), 9);
        due("below", x.cell(-1, 1), NONE);
        due("above", x.cell(6, 1), NONE);
        due("number below", x.cell(0, -1), NONE);
        due("number above", x.cell(0, 64), NONE);
        due("far", x.cell(MAX, MIN), NONE);
        due("the ends", x.cell(5, 63), 3);
        due("the ends", x.cell(0, 0), 7);
        due("refused ones are no ACTS", x.count(9), 4);
        due("walk", x.walk(400), 4);
        due("the WINDOW has LEFT", x.cell(1, 1), NONE);
        due("the WINDOW has RIGHT", x.cell(2, 1), NONE);
        due("ahead of LEFT", x.cell(0, 1), 0);
        due("behind RIGHT", x.cell(3, 1), 2);
    }

    private void change() {
        check.about("5 change");
        RangePlanner x = new RangePlanner();
        due("below", x.change(-1, 0), NONE);
        due("above", x.change(16, 0), NONE);
        due("number below", x.change(0, -1), NONE);
        due("number above", x.change(0, 64), NONE);
        due("far", x.change(MIN, MAX), NONE);
        for (int k = 1; k <= 32; k++) {
            due("change", x.change(k % 16, k), k);
        }
        due("one more", x.change(0, 0), NONE);
        due("CHANGES", x.count(1), 32);
        due("ahead of it", x.at(3, 2), 0);
        due("behind it", x.at(3, 3), 3);
        due("ahead of the second", x.at(3, 18), 3);
        due("behind the second", x.at(3, 19), 19);
        due("a CHANGE to what it is already", new RangePlanner().change(15, 0), 1);
    }

    private void ask() {
        check.about("6 ask");
        RangePlanner x = told(SMALL);
        due("ask", x.ask(0, 0, 5, 0), 0);
        due("ask", x.ask(7, 3, 3, 2), 1);
        due("TIME NONE", x.ask(6, 0, 0, NONE), 2);
        due("its TIME", x.of(2, 3), 2);
        x.change(0, 0);
        due("its TIME stays", x.of(2, 3), 2);
        due("KIND below", x.ask(-1, 0, 1, 0), NONE);
        due("KIND above", x.ask(8, 0, 1, 0), NONE);
        due("first below", x.ask(0, -1, 1, 0), NONE);
        due("last above", x.ask(0, 0, 6, 0), NONE);
        due("first above last", x.ask(0, 2, 1, 0), NONE);
        due("TIME of more CHANGES", x.ask(0, 0, 1, 4), NONE);
        due("TIME below NONE", x.ask(0, 0, 1, -2), NONE);
        due("far", x.ask(MAX, MIN, MAX, MIN), NONE);
        for (int q = 3; q < 24; q++) {
            due("ask", x.ask(q % 8, 1, 2, 3), q);
        }
        due("one more", x.ask(0, 0, 1, 0), NONE);
        due("QUESTIONS", x.count(2), 24);
    }

    private void drop() {
        check.about("7 drop");
        RangePlanner x = told(SMALL + ";ask sum 0 1;ask pairs 2 3");
        due("drop", x.drop(), 1);
        due("the last one went", x.of(1, 0), NONE);
        due("the first one did not", x.of(0, 2), 1);
        due("drop", x.drop(), 0);
        due("none", x.drop(), NONE);
        due("ACTS", x.count(9), 2);
    }

    private void weight() {
        check.about("8 weight");
        RangePlanner x = told(SMALL + ";ask sum 0 1 at 2");
        due("moves", x.moves(1, 4, 2), 4);
        due("weight(9)", x.weight(9), 1);
        due("moves", x.moves(1, 4, 2), 20);
        due("weight(10)", x.weight(10), NONE);
        due("weight(-1)", x.weight(-1), NONE);
        due("weight(0)", x.weight(0), 9);
        due("moves", x.moves(1, 4, 2), 2);
        due("weight(0)", x.weight(0), 0);
        due("the same is an ACT too", x.count(9), 3);
    }

    private void set() {
        check.about("9 set");
        RangePlanner x = new RangePlanner();
        due("set(2, 60)", x.set(2, 60), 104);
        due("ORDER", x.count(4), 2);
        due("BLOCK", x.count(5), 60);
        due("set(0, 1)", x.set(0, 1), 260);
        due("set(3, 1)", x.set(3, 1), NONE);
        due("set(-1, 1)", x.set(-1, 1), NONE);
        due("set(0, 0)", x.set(0, 0), NONE);
        due("set(0, 61)", x.set(0, 61), NONE);
        due("set(MIN, MAX)", x.set(MIN, MAX), NONE);
        due("set(0, 1)", x.set(0, 1), 1);
        due("the same is an ACT too", x.count(9), 3);
    }

    private void back() {
        check.about("10 back");
        RangePlanner x = told(SMALL + ";ask sum 0 1;ask pairs 2 3 at 1");
        check.due("nothing", x.back(), false);
        x.cell(0, 9);
        x.change(0, 8);
        x.ask(0, 0, 0, 3);
        x.drop();
        x.drop();
        x.weight(3);
        x.set(0, 7);
        x.change(9, 9);
        due("ACTS", x.count(9), 7);
        check.due("set", x.back(), true);
        due("ORDER", x.count(4), 1);
        due("BLOCK", x.count(5), 4);
        check.due("weight", x.back(), true);
        due("WEIGHT", x.count(3), 1);
        check.due("drop", x.back(), true);
        due("KIND", x.of(1, 0), 7);
        due("first", x.of(1, 1), 2);
        due("last", x.of(1, 2), 3);
        due("TIME", x.of(1, 3), 1);
        check.due("drop", x.back(), true);
        due("TIME", x.of(2, 3), 3);
        check.due("ask", x.back(), true);
        due("QUESTIONS", x.count(2), 2);
        check.due("change", x.back(), true);
        due("CHANGES", x.count(1), 2);
        due("at(0, 2)", x.at(0, 2), 9);
        check.due("cell", x.back(), true);
        due("at(0, 2)", x.at(0, 2), 1);
        check.due("nothing", x.back(), false);
        due("ACTS", x.count(9), 0);
    }

    private void backTheLastTwelve() {
        check.about("10 back, the last 12");
        RangePlanner x = new RangePlanner();
        for (int k = 0; k < 15; k++) {
            x.cell(0, k + 1);
        }
        due("ACTS", x.count(9), 12);
        for (int k = 14; k >= 3; k--) {
            check.due("back", x.back(), true);
            due("at", x.at(0, 0), k);
        }
        check.due("no more", x.back(), false);
        due("at", x.at(0, 0), 3);
        x.cell(0, 9);
        due("ACTS", x.count(9), 1);
        check.due("back", x.back(), true);
        due("at", x.at(0, 0), 3);
    }

    private void backAndTheWindow() {
        check.about("10 back, the WINDOW");
        RangePlanner x = told(SMALL);
        x.change(2, 63);
        x.cell(0, 40);
        x.ask(0, 0, 2, 3);
        due("walk", x.walk(400), 6);
        due("NOW", x.window(2), 3);
        due("holds(63)", x.holds(63), 1);
        due("holds(40)", x.holds(40), 1);
        x.back();
        due("NOW stays", x.window(2), 3);
        due("LEFT, RIGHT stay", x.window(1), 2);
        due("none of none is DONE", x.window(3), 0);
        x.back();
        due("of a CELL that it has", x.holds(40), 0);
        due("of a CELL that it has", x.holds(1), 1);
        due("no MOVE", x.window(5) + x.window(6), 6);
        x.back();
        due("of a CHANGE: NOW turns", x.window(2), 2);
        due("a MOVE", x.window(6), 4);
        due("no MOVE of an end", x.window(5), 3);
        due("holds(63)", x.holds(63), 0);
        due("holds(9)", x.holds(9), 1);
        x.change(2, 62);
        x.back();
        due("NOW is not behind it", x.window(2), 2);
        due("no MOVE", x.window(6), 4);
    }

    private void answer() {
        check.about("11 answer");
        RangePlanner x = told("row 2,0,2,1,0,7,1,9;set 5 2;set 0 0;set 5 4");
        long[][] want = {
            {22, 5, 2, 0, 28, 3, 5, 3},
            {17, 4, 3, 2, 31, 3, 6, 5},
            {15, 4, 3, 0, 21, 3, 6, 5},
            {17, 5, 3, 0, 19, 3, 5, 4},
        };
        for (int time = 0; time < 4; time++) {
            for (int kind = 0; kind < 8; kind++) {
                int q = x.ask(kind, 0, 7, time);
                due("answer of KIND " + kind + " at " + time, x.answer(q), want[time][kind]);
                x.drop();
            }
        }
        x.ask(5, 7, 7, 0);
        due("missing of 9", x.answer(0), 0);
        x.ask(3, 2, 5, 1);
        due("which of 2 1 0 2", x.answer(1), 2);
        x.ask(3, 2, 5, 0);
        due("which of 2 1 0 7", x.answer(2), 0);
        check.due("none such", Check.throwsNoSuchElement(x, 3), true);
        check.due("none such", Check.throwsNoSuchElement(x, -1), true);
        check.due("none such", Check.throwsNoSuchElement(x, MAX), true);
        check.due("none such", Check.throwsNoSuchElement(x, MIN), true);
        check.due("one such", Check.throwsNoSuchElement(x, 2), false);
        RangePlanner y = told("row 63" + ",63".repeat(59) + ";ask sum 0 59;ask power 0 59;ask pairs 0 59");
        due("the greatest sum", y.answer(0), 3780);
        due("the greatest power", y.answer(1), 226800);
        due("the most pairs", y.answer(2), 1770);
        RangePlanner z = told("row 0,1,2,3,4,5,6,7,8,9,10,11;ask missing 0 11;ask missing 0 5;ask missing 1 11");
        due("missing", z.answer(0), 12);
        due("missing", z.answer(1), 6);
        due("missing", z.answer(2), 0);
    }

    private void answersOfParts() {
        check.about("11 answer, parts");
        RangePlanner x = told("row 0,1,8,10,19,28,37,46,55,56,63;ask parts 0 0;ask parts 0 2;ask parts 1 9"
            + ";ask parts 3 8;ask parts 9 10;ask parts 4 6;ask parts 1 8");
        due("a NODE joins itself", x.answer(0), 8);
        due("0 and 1, twice", x.answer(1), 7);
        due("a ring of all", x.answer(2), 1);
        due("all but 0", x.answer(3), 2);
        due("7 and 0, 7 and 7", x.answer(4), 7);
        due("2 to 5", x.answer(5), 5);
        due("a path of all", x.answer(6), 1);
    }

    private void at() {
        check.about("12 at");
        RangePlanner x = told(SMALL);
        due("at(2, 0)", x.at(2, 0), 5);
        due("at(2, 1)", x.at(2, 1), 9);
        due("at(5, 1)", x.at(5, 1), 3);
        due("at(5, 2)", x.at(5, 2), 0);
        due("at(5, 3)", x.at(5, 3), NONE);
        due("at(5, -1)", x.at(5, -1), NONE);
        due("at(6, 0)", x.at(6, 0), NONE);
        due("at(-1, 0)", x.at(-1, 0), NONE);
        due("at(MIN, MAX)", x.at(MIN, MAX), NONE);
    }

    private void of() {
        check.about("13 of");
        RangePlanner x = told(SMALL + ";ask sum 1 3 at 1;ask pairs 1 3 at 1;ask sum 1 3 at 1;ask sum 1 3 at 2"
            + ";ask sum 1 4 at 1;ask sum 2 3 at 1;ask sum 1 3 at 1");
        due("KIND", x.of(1, 0), 7);
        due("first", x.of(5, 1), 2);
        due("last", x.of(4, 2), 4);
        due("TIME", x.of(3, 3), 2);
        due("the first ALIKE, itself", x.of(0, 4), 0);
        due("the first ALIKE", x.of(6, 4), 0);
        due("of another KIND", x.of(1, 4), 1);
        due("of another TIME", x.of(3, 4), 3);
        due("of another last", x.of(4, 4), 4);
        due("of another first", x.of(5, 4), 5);
        due("how many", x.of(2, 5), 3);
        due("how many", x.of(1, 5), 1);
        x.drop();
        due("how many, one of them dropped", x.of(2, 5), 2);
        x.back();
        due("none such", x.of(7, 0), NONE);
        due("none such", x.of(-1, 4), NONE);
        due("what 6", x.of(0, 6), NONE);
        due("what -1", x.of(0, -1), NONE);
        due("far", x.of(MAX, MIN), NONE);
    }

    private void plannedByBlocks() {
        check.about("14 planned, ORDERS 0 and 1");
        RangePlanner x = told("row 0,0,0,0,0,0,0,0;set 0 1;set 0 2"
            + ";ask sum 3 5 at 0;ask unlike 2 7 at 1;ask power 0 3 at 2;ask missing 1 2 at 1;ask pairs 0 1 at 2"
            + ";ask sum 2 7 at 0;ask sum 3 6 at 1;ask sum 1 7 at 0;ask sum 1 6 at 2;ask often 0 0;ask which 0 0"
            + ";ask parts 0 0;ask sum 2 5 at 0;ask sum 0 2 at 1");
        dueRow("ORDER 0", Look.plan(x, 0, 2), 4, 3, 13, 2, 7, 8, 0, 12, 5, 1, 6);
        dueRow("ORDER 1", Look.plan(x, 1, 2), 4, 2, 3, 13, 8, 7, 1, 6, 5, 0, 12);
        dueRow("ORDER 0, one block", Look.plan(x, 0, 60), 0, 5, 7, 12, 1, 3, 6, 13, 2, 4, 8);
        due("behind the last", x.planned(0, 2, 11), NONE);
        due("i -2", x.planned(0, 2, -2), NONE);
        due("i MAX", x.planned(0, 2, MAX), NONE);
        due("ORDER 3", x.planned(3, 2, 0), NONE);
        due("ORDER -1", x.planned(-1, 2, NONE), NONE);
        due("BLOCK 0", x.planned(0, 0, 0), NONE);
        due("BLOCK 61", x.planned(0, 61, NONE), NONE);
        due("BLOCK 60", x.planned(0, 60, NONE), 11);
    }

    private void plannedByCurve() {
        check.about("14 planned, ORDER 2");
        RangePlanner x = told("row 0,0,0,0,0,0,0,0;set 0 1");
        int[][] ends = {{3, 3}, {0, 3}, {1, 2}, {0, 1}, {2, 3}, {1, 1}, {0, 2}, {0, 0}, {2, 2}, {1, 3}};
        for (int[] e : ends) {
            x.ask(0, e[0], e[1], 0);
        }
        int[] want = {7, 5, 3, 6, 1, 9, 2, 8, 4, 0};
        dueRow("BLOCK 1", Look.plan(x, 2, 1), want);
        RangePlanner y = told("row 0,0,0,0,0,0,0,0;set 0 1");
        for (int[] e : ends) {
            y.ask(1, 2 * e[0], 2 * e[1] + 1, 0);
        }
        dueRow("BLOCK 2", Look.plan(y, 2, 2), want);
        RangePlanner z = told("row 0,0,0,0;set 0 1;ask sum 0 1 at 1;ask sum 1 3 at 0;ask sum 0 3 at 0;ask sum 0 0");
        dueRow("by TIME, then numbers", Look.plan(z, 2, 4), 1, 2, 0, 3);
    }

    private void moves() {
        check.about("15 moves");
        RangePlanner x = told("row 0,0,0,0,0,0,0;set 0 1;set 0 2;set 0 3"
            + ";ask sum 2 4 at 3;ask sum 0 5 at 1;ask often 0 6;ask sum 5 6 at 1");
        // By ORDER 0 and BLOCK 3: 1 (6 ENDS, 1 TURN), 0 (2 + 1 ENDS, 2 TURNS), 3 (2 + 3 ENDS, 2 TURNS).
        due("ENDS", x.moves(0, 3, 0), 14);
        due("TURNS", x.moves(0, 3, 1), 5);
        due("COST", x.moves(0, 3, 2), 19);
        due("the most MOVES", x.moves(0, 3, 3), 7);
        x.weight(4);
        due("COST", x.moves(0, 3, 2), 34);
        due("the most MOVES", x.moves(0, 3, 3), 7);
        due("BOUND of ORDER 0", x.moves(0, 3, 4), NONE);
        due("BOUND of ORDER 2", x.moves(2, 3, 4), NONE);
        due("BOUND", x.moves(1, 3, 4), 27 + 80);
        due("BOUND, n divided", x.moves(1, 7, 4), 63 + 56);
        due("BOUND, b above n", x.moves(1, 60, 4), 540 + 268);
        due("what 5", x.moves(1, 3, 5), NONE);
        due("what -1", x.moves(1, 3, -1), NONE);
        due("ORDER 3", x.moves(3, 3, 0), NONE);
        due("BLOCK 0", x.moves(1, 0, 4), NONE);
        due("BLOCK 61", x.moves(1, 61, 0), NONE);
        RangePlanner none = new RangePlanner();
        due("none", none.moves(1, 60, 3), 0);
        due("BOUND of none", none.moves(1, 1, 4), 2 * 17 * 17);
    }

    private void best() {
        check.about("16 best");
        RangePlanner x = told("row 0,0,0,0,0,0,0,0;ask sum 0 7;ask sum 0 1;ask sum 1 7;ask sum 0 2");
        // BLOCK 1: 1 3 0 2, 9 MOVES; 2: 1 3 0 2 too; 3: 1, 3, 0, 2; 4: likewise; 8: 0 1 2 3, 8 + 6 + 7 + 6.
        due("its COST", x.best(0, 1), 9);
        due("which", x.best(0, 0), 1);
        due("by one block", x.moves(0, 8, 2), 27);
        RangePlanner y = told("row 0,0,0,0,0,0,0,0;set 0 1;ask sum 0 1 at 1;ask sum 2 3 at 0;ask sum 4 5 at 1;ask sum 6 7 at 0");
        y.weight(9);
        int best = y.best(1, 0);
        for (int b = 1; b <= 8; b++) {
            check.due("no b is better", y.moves(1, b, 2) >= y.best(1, 1), true);
            check.due("none ahead is as good", b < best && y.moves(1, b, 2) == y.best(1, 1), false);
        }
        due("its COST", y.moves(1, best, 2), y.best(1, 1));
        check.due("not always 1", best > 1, true);
        due("none", new RangePlanner().best(2, 0), 1);
        due("none", new RangePlanner().best(2, 1), 0);
        due("ORDER 3", x.best(3, 0), NONE);
        due("ORDER -1", x.best(-1, 0), NONE);
        due("what 2", x.best(0, 2), NONE);
        due("what -1", x.best(0, -1), NONE);
        RangePlanner z = told("row 0,0;ask sum 1 1;ask sum 0 1;ask sum 1 1;ask sum 0 0");
        due("b of 1 to n alone", z.best(0, 0), 1);
    }

    private void split() {
        check.about("17 split");
        RangePlanner x = told("row 0,0,0,0,0,0,0,0,0,0;ask sum 0 0;ask sum 0 1;ask sum 0 2;ask sum 0 3;ask sum 0 9");
        x.set(0, 1);
        // Each alone: 1 2 3 4 10. A row's COST is that of its last one.
        due("one WORKER", x.split(1, 0), 10);
        due("one WORKER", x.split(1, 1), 5);
        due("two", x.split(2, 0), 10);
        due("the most in the first row", x.split(2, 1), 5);
        due("none in the second", x.split(2, 2), 0);
        due("four", x.split(4, 1), 5);
        due("four", x.split(4, 4), 0);
        RangePlanner y = told("row 0,0,0,0,0,0;set 0 1;ask sum 0 0;ask sum 1 1;ask sum 2 2;ask sum 3 3 at 0");
        y.set(0, 1);
        // TIMES 1 1 1 0: alone 2 4 6 7, one behind another 2, 2 more, 2 more, 3 more.
        due("one", y.split(1, 0), 9);
        due("two", y.split(2, 0), 7);
        due("two, the first", y.split(2, 1), 3);
        due("two, the second", y.split(2, 2), 1);
        due("three", y.split(3, 2), 1);
        due("three, the third", y.split(3, 3), 0);
        y.weight(0);
        due("WEIGHT 0", y.split(1, 0), 7);
        y.weight(9);
        due("WEIGHT 9", y.split(1, 0), 25);
        due("WEIGHT 9, two", y.split(2, 0), 14);
        due("k 0", y.split(0, 0), NONE);
        due("k 5", y.split(5, 0), NONE);
        due("what -1", y.split(2, -1), NONE);
        due("no such WORKER", y.split(2, 3), NONE);
        due("no such WORKER", y.split(4, 5), NONE);
        due("none", new RangePlanner().split(3, 0), 0);
        due("none", new RangePlanner().split(3, 3), 0);
    }

    private void aFullPlan() {
        RangePlanner x = new RangePlanner();
        for (int k = 0; k < 12; k++) {
            x.ask(0, 0, 0, 0);
            x.ask(1, 0, 9, 0);
        }
        x.set(0, 16);
        check.about("17 split, 24 QUESTIONS");
        // 1 or 10 to the first one of a row, 9 to each other.
        due("one", x.split(1, 0), 1 + 23 * 9);
        due("two", x.split(2, 0), 1 + 11 * 9);
        due("three", x.split(3, 0), 1 + 7 * 9);
        due("four", x.split(4, 0), 1 + 5 * 9);
        for (int worker = 1; worker <= 4; worker++) {
            due("four", x.split(4, worker), 6);
        }
        check.about("20 would, 24 QUESTIONS");
        due("the last one of 25", x.would(0, 0, 0, 0), 9);
        due("the COST stays", x.moves(0, 16, 2), 208);
        check.about("19 saves, 24 QUESTIONS");
        due("the last one", x.saves(23), 9);
        due("one in between", x.saves(12), 18);
        check.about("14 planned, 24 QUESTIONS");
        due("the last one", x.planned(0, 16, 23), 23);
    }

    private void move() {
        check.about("18 move");
        RangePlanner x = told("row 0,0,0,0,0;set 0 1;set 1 1;ask sum 2 3 at 2;ask sum 1 2 at 1;ask which 0 4;ask sum 1 4 at 1");
        x.set(0, 5);
        // 1 first, then 3, then 0.
        int[][] want = {
            {1, 0, 1}, {1, 1, 1}, {1, 2, 1}, {2, 0, 1}, {4, 0, 1},
            {1, 3, 3}, {1, 4, 3},
            {2, 1, 0}, {3, 4, 0}, {4, 1, 0},
        };
        for (int i = 0; i < want.length; i++) {
            for (int what = 0; what < 3; what++) {
                due("move(" + i + ", " + what + ")", x.move(i, what), want[i][what]);
            }
        }
        due("none such", x.move(10, 0), NONE);
        due("none such", x.move(-1, 0), NONE);
        due("none such", x.move(MAX, 2), NONE);
        due("what 3", x.move(0, 3), NONE);
        due("what -1", x.move(0, -1), NONE);
        RangePlanner v = told("row 0,0,0,0,0;set 0 1;set 1 1;ask sum 1 2 at 2;ask sum 0 4 at 1");
        v.set(0, 3);
        dueRow("the PLAN", Look.plan(v, 0, 3), 0, 1);
        int[][] more = {{4, 0, 0}, {4, 1, 0}, {0, 0, 1}, {1, 3, 1}, {1, 4, 1}, {5, 1, 1}};
        for (int i = 0; i < more.length; i++) {
            for (int what = 0; what < 3; what++) {
                due("move(" + (i + 4) + ", " + what + ")", v.move(i + 4, what), more[i][what]);
            }
        }
        v.walk(7);
        due("wherever the WINDOW is", v.move(4, 0), 4);
        due("none", new RangePlanner().move(0, 0), NONE);
    }

    private void savesAndWould() {
        check.about("19 saves");
        RangePlanner x = told("row 0,0,0,0,0,0,0;set 0 1;ask sum 0 1 at 0;ask sum 0 5 at 1;ask often 3 4;ask sum 0 2 at 0");
        x.set(0, 3);
        // 0, 3, 1: 2, 1, 3 + 1.
        due("the first", x.saves(0), 0);
        due("the last", x.saves(1), 4);
        due("the middle one", x.saves(3), 0);
        due("KIND 2", x.saves(2), 0);
        due("none such", x.saves(4), -100000);
        due("none such", x.saves(-1), -100000);
        due("none such", x.saves(MAX), -100000);
        due("they stay", x.count(2), 4);
        check.about("20 would");
        due("would", x.would(0, 0, 6, 1), 1);
        due("would, the same", x.would(0, 0, 5, NONE), 0);
        due("would, the last of its block", x.would(4, 0, 0, 0), 4);
        due("would, in between", x.would(5, 2, 2, 0), 4);
        due("KINDS 2, 3, 6", x.would(2, 0, 6, 0) + x.would(3, 1, 1, NONE) + x.would(6, 6, 6, 1), 0);
        due("KIND 8", x.would(8, 0, 0, 0), -100000);
        due("KIND -1", x.would(-1, 0, 0, 0), -100000);
        due("first above last", x.would(0, 1, 0, 0), -100000);
        due("last above", x.would(0, 0, 7, 0), -100000);
        due("TIME above", x.would(0, 0, 0, 2), -100000);
        due("TIME below NONE", x.would(2, 0, 0, -2), -100000);
        due("none came", x.count(2), 4);
        for (int q = 4; q < 24; q++) {
            x.ask(0, 0, 5, 1);
        }
        due("on top of 24", x.would(0, 0, 6, 1), 1);
        due("on top of 24", x.count(2), 24);
        due("ACTS", x.count(9), 12);
    }

    private void undone() {
        check.about("21 undone");
        RangePlanner x = told("row 0,0,0,0,0,0,0,0;set 0 1"
            + ";ask often 3 5;ask which 2 7 at 0;ask parts 0 3 at 1;ask sum 0 7;ask often 1 2 at 1;ask which 2 4 at 1"
            + ";ask often 0 2 at 1;ask parts 3 3 at 0");
        dueRow("BLOCK 2", Look.undoing(x, 2), 7, 1, 4, 6, 2, 5, 0);
        dueRow("BLOCK 8", Look.undoing(x, 8), 7, 1, 4, 6, 2, 5, 0);
        dueRow("BLOCK 1", Look.undoing(x, 1), 1, 7, 6, 2, 4, 5, 0);
        due("behind the last", x.undone(2, 7), NONE);
        due("i -2", x.undone(2, -2), NONE);
        due("BLOCK 0", x.undone(0, NONE), NONE);
        due("BLOCK 61", x.undone(61, 0), NONE);
        due("BLOCK 60", x.undone(60, NONE), 7);
        due("none", new RangePlanner().undone(1, NONE), 0);
    }

    private void adds() {
        check.about("22 adds");
        RangePlanner x = told("row 0,0,0,0,0,0,0,0;set 0 1"
            + ";ask often 0 1 at 0;ask which 1 4 at 0;ask parts 0 6 at 0;ask often 1 6 at 0;ask often 4 7 at 0;ask often 1 4");
        // BLOCK 3, TIME 0: 0 1 within; 3 4 come, 1 2 ahead; 5 6 come, 0 1 2; none, 1 2; a GROUP: 6 7, 4 5; a GROUP: 3 4, 1 2.
        due("ADDS", x.adds(3, 0), 2 + 4 + 5 + 2 + 4 + 4);
        due("GROUPS", x.adds(3, 1), 3);
        due("DEEPEST", x.adds(3, 2), 7);
        due("ADDS of one block", x.adds(60, 0), 2 + 4 + 7 + 6 + 4 + 4);
        due("GROUPS of one block", x.adds(60, 1), 2);
        // BLOCK 7: BORDER 7; 4 to 7 has CELL 7 behind it.
        due("ADDS of 7", x.adds(7, 0), 2 + 4 + 7 + 6 + 4 + 4);
        // BLOCK 1: borders 1, 2, 5: 0 1; 0 to 6 (5 more); 1 to 4, 1 to 6; 4 to 7; 1 to 4.
        due("ADDS of 1", x.adds(1, 0), 2 + 6 + 4 + 3 + 4 + 4);
        due("GROUPS of 1", x.adds(1, 1), 4);
        due("what 3", x.adds(3, 3), NONE);
        due("what -1", x.adds(3, -1), NONE);
        due("BLOCK 0", x.adds(0, 0), NONE);
        due("BLOCK 61", x.adds(61, 0), NONE);
        due("none", new RangePlanner().adds(5, 2), 0);
    }

    private void walk() {
        check.about("23 walk");
        RangePlanner x = told(SMALL + ";ask sum 1 3 at 1;ask unlike 1 3 at 1;ask sum 0 3 at 1");
        x.set(0, 1);
        // 2, then 0 and 1: 4 ENDS and a TURN, then LEFT upwards.
        due("n 0", x.walk(0), NONE);
        due("n 401", x.walk(401), NONE);
        due("n MIN", x.walk(MIN), NONE);
        due("walk(4)", x.walk(4), 4);
        dueRow("window", Look.window(x), 0, 3, 0, 0, 2, 4, 0, 3);
        due("walk(1)", x.walk(1), 1);
        dueRow("window", Look.window(x), 0, 3, 1, 1, 0, 4, 1, 4);
        due("walk(1), and 1 by no MOVE", x.walk(1), 1);
        dueRow("window", Look.window(x), 1, 3, 1, 3, NONE, 5, 1, 3);
        due("walk(400)", x.walk(400), 0);
        RangePlanner y = new RangePlanner();
        due("none", y.walk(400), 0);
        y.ask(6, 0, 3, 0);
        due("none of it", y.walk(400), 0);
        RangePlanner z = told("row 0" + ",0".repeat(59));
        for (int k = 0; k < 12; k++) {
            z.ask(0, 0, 0, 0);
            z.ask(0, 58, 59, 0);
        }
        z.set(1, 60);
        due("400 at most", z.walk(400), 400);
        due("and the next ones", z.walk(400), 400);
    }

    private void walkOverATellingAnew() {
        check.about("23 walk, THE PLAN anew");
        RangePlanner x = told("row 1,2,3,4,5,6;ask sum 0 1;ask sum 2 3;ask sum 4 5");
        x.set(0, 1);
        due("to the second", x.walk(6), 6);
        dueRow("window", Look.window(x), 2, 3, 0, 2, 2, 6, 0, 2);
        x.ask(0, 0, 0, 0);
        dueRow("THE PLAN", Look.plan(x, 0, 1), 3, 0, 1, 2);
        dueRow("that many of it are DONE", Look.window(x), 2, 3, 0, 2, 1, 6, 0, 2);
        due("the window is there: DONE by no MOVE, then on", x.walk(1), 1);
        dueRow("window", Look.window(x), 2, 4, 0, 3, 2, 7, 0, 3);
        x.set(0, 6);
        dueRow("SET anew", Look.window(x), 2, 4, 0, 3, 3, 7, 0, 3);
        due("to 3, the last one", x.walk(400), 2 + 2 + 2);
        dueRow("window", Look.window(x), 0, 0, 0, 4, NONE, 13, 0, 1);
        x.drop();
        dueRow("all are DONE", Look.window(x), 0, 0, 0, 3, NONE, 13, 0, 1);
    }

    private void doneOfAPlanThatShrinks() {
        check.about("23 walk, fewer QUESTIONS");
        RangePlanner x = told("row 1,2,3,4,5,6;ask sum 0 1;ask sum 2 3;ask sum 4 5");
        x.walk(400);
        due("DONE", x.window(3), 3);
        x.drop();
        x.drop();
        due("DONE, all of it", x.window(3), 1);
        due("no next", x.window(4), NONE);
        x.back();
        x.back();
        due("as many as it came to", x.window(3), 3);
        due("no MOVE", x.walk(5), 0);
    }

    private void walkAlongAPlanThatShrank() {
        check.about("23 walk along fewer QUESTIONS, then more");
        RangePlanner x = told("row 1,2,3,4,5,6;ask sum 0 1;ask sum 2 3;ask sum 4 5");
        x.walk(400);
        dueRow("window", Look.window(x), 4, 5, 0, 3, NONE, 10, 0, 2);
        x.drop();
        x.drop();
        due("refused", x.walk(0), NONE);
        due("refused", x.walk(401), NONE);
        x.back();
        due("a refused call leaves what is DONE", x.window(3), 2);
        x.drop();
        due("to the end of THE PLAN as it is", x.walk(1), 0);
        dueRow("the WINDOW stays", Look.window(x), 4, 5, 0, 1, NONE, 10, 0, 2);
        x.back();
        dueRow("that many are DONE", Look.window(x), 4, 5, 0, 1, 1, 10, 0, 2);
        x.back();
        dueRow("that many are DONE", Look.window(x), 4, 5, 0, 1, 1, 10, 0, 2);
        due("down to the second and up to the last", x.walk(400), 4 + 4);
        dueRow("window", Look.window(x), 4, 5, 0, 3, NONE, 18, 0, 2);
    }

    private void walkBehindTheLastDrop() {
        check.about("23 walk along no QUESTIONS, then one");
        RangePlanner x = new RangePlanner();
        x.ask(0, 0, 0, 0);
        due("to the first", x.walk(1), 1);
        x.drop();
        due("none there", x.walk(1), 0);
        due("none DONE", x.window(3), 0);
        x.ask(2, 0, 5, 0);
        due("one that is not of THE PLAN", x.walk(1), 0);
        x.ask(0, 0, 1, 0);
        due("the next one", x.window(4), 1);
        due("to it", x.walk(1), 1);
        dueRow("window", Look.window(x), 0, 1, 0, 1, NONE, 2, 0, 1);
        x.back();
        due("its ask taken back, none there", x.walk(1), 0);
        x.ask(1, 0, 1, 0);
        due("the next one", x.window(4), 1);
        due("there by no MOVE", x.walk(1), 0);
        due("DONE", x.window(3), 1);
    }

    private void home() {
        check.about("24 home");
        RangePlanner x = told(SMALL + ";ask sum 2 4 at 2");
        due("at home", x.home(), 0);
        due("walk", x.walk(400), 9);
        due("home", x.home(), 3 + 2 + 2 + 2);
        dueRow("window", Look.window(x), 0, -1, 0, 0, 0, 14, 4, 0);
        due("walk anew", x.walk(6), 6);
        due("on the way", x.home(), 4 + 1 + 1);
        dueRow("window", Look.window(x), 0, -1, 0, 0, 0, 26, 4, 0);
        due("it is no ACT", x.count(9), 0);
    }

    private void window() {
        check.about("25 window");
        RangePlanner x = told(SMALL + ";ask sum 1 2 at 1");
        x.walk(400);
        dueRow("window", Look.window(x), 1, 2, 1, 1, NONE, 4, 1, 2);
        due("what 8", x.window(8), NONE);
        due("what -1", x.window(-1), NONE);
        due("what MAX", x.window(MAX), NONE);
        x.ask(2, 0, 5, 0);
        due("KIND 2 is not of the WALK", x.window(4), NONE);
        x.ask(1, 3, 4, 0);
        due("the next one", x.window(4), 2);
    }

    private void holdsAndTells() {
        check.about("26 holds");
        RangePlanner y = told(SMALL + ";ask sum 1 3 at 1");
        y.walk(5);
        due("holds(5)", y.holds(5), 2);
        due("holds(1)", y.holds(1), 0);
        due("holds(2)", y.holds(2), 1);
        check.about("27 tells");
        long[] ahead = {12, 2, NONE, NONE, 22, 0, NONE, 1};
        for (int kind = 0; kind < 8; kind++) {
            due("tells(" + kind + ")", y.tells(kind), ahead[kind]);
        }
        y.walk(1);
        check.about("26 holds");
        due("behind the TURN", y.holds(5), 1);
        due("behind the TURN", y.holds(9), 1);
        due("holds(-1)", y.holds(-1), NONE);
        due("holds(64)", y.holds(64), NONE);
        due("holds(63)", y.holds(63), 0);
        due("holds(MIN)", y.holds(MIN), NONE);
        check.about("27 tells");
        long[] behind = {16, 3, NONE, NONE, 16, 0, NONE, 0};
        for (int kind = 0; kind < 8; kind++) {
            due("tells(" + kind + ")", y.tells(kind), behind[kind]);
        }
        due("tells(8)", y.tells(8), NONE);
        due("tells(-1)", y.tells(-1), NONE);
        due("tells(MAX)", y.tells(MAX), NONE);
        y.home();
        for (int kind : new int[] {0, 1, 4, 5, 7}) {
            due("it holds nothing", y.tells(kind), 0);
        }
    }

    private void touched() {
        check.about("28 touched");
        RangePlanner x = told(SMALL + ";ask sum 0 2 at 0;ask sum 0 2 at 1;ask unlike 2 3 at 0;ask sum 3 5;ask often 1 2 at 0;ask sum 1 3 at 0");
        due("touched(2, 6)", x.touched(2, 6), 3);
        due("touched(2, 2)", x.touched(2, 2), 4);
        due("touched(2, 5)", x.touched(2, 5), 0);
        due("touched(0, 9)", x.touched(0, 9), 2);
        due("a CHANGE covers it", x.touched(5, 9), 0);
        due("touched(6, 0)", x.touched(6, 0), NONE);
        due("touched(-1, 0)", x.touched(-1, 0), NONE);
        due("touched(0, 64)", x.touched(0, 64), NONE);
        due("touched(0, -1)", x.touched(0, -1), NONE);
        due("all stays", x.at(2, 0), 5);
        due("no ACT", x.count(9), 0);
        x.walk(400);
        due("a CELL that the WINDOW has", x.touched(2, 6), 3);
    }

    private void count() {
        check.about("29 count");
        RangePlanner x = told(SMALL + ";ask sum 2 3;ask often 3 4;ask sum 2 3 at 2;ask sum 2 3 at 1;ask sum 5 5");
        x.weight(3);
        x.set(2, 11);
        x.feed(0, 0, 0, 0, 0);
        dueRow("count", Look.counts(x), 6, 2, 5, 3, 2, 11, 4, 4, 3, 2, 20);
        due("count(11)", x.count(11), NONE);
        due("count(-1)", x.count(-1), NONE);
        due("count(MIN)", x.count(MIN), NONE);
        RangePlanner y = told(SMALL + ";ask sum 4 5;ask sum 1 2");
        due("the most", y.count(7), 1);
        due("the first such CELL", y.count(8), 1);
        dueRow("at first", Look.counts(new RangePlanner()), 16, 0, 0, 1, 1, 4, 0, 0, 0, 0, 0);
    }
}
