/** Promises 11 to 22, sentence by sentence: ANSWERS and plans of as little and as much as there may be. */
public final class EdgeAskTest {
    private static final int NONE = RangePlanner.NONE;
    private static final int THROWN = Integer.MIN_VALUE;

    private final Check check = new Check();

    public static void main(String[] args) {
        EdgeAskTest all = new EdgeAskTest();
        all.answerOfNone();
        all.answersOfOneCell();
        all.answersOfAllCells();
        all.answersBetweenTheirEnds();
        all.answersAtTheirTimes();
        all.whichOfSeveral();
        all.missingAllThatAreThere();
        all.partsJoinedTwice();
        all.atTheEnds();
        all.ofTheEnds();
        all.alikeOnes();
        all.plannedNone();
        all.plannedOneByOne();
        all.plannedByTheEdgesOfBlocks();
        all.plannedUpAndDown();
        all.plannedByTheCurve();
        all.plannedByTheTurnsOfTheCurve();
        all.movesOfOne();
        all.movesOfMany();
        all.movesOfFewerThanBefore();
        all.bounds();
        all.bestOfEqualOnes();
        all.bestOfTheGreatest();
        all.splitOfFew();
        all.splitByTheFirstRow();
        all.splitOfFewerThanBefore();
        all.moveToTheLastCell();
        all.moveToTheFirstCell();
        all.moveThroughAllChanges();
        all.savesOfFew();
        all.wouldOfFew();
        all.wouldOnTopOf24();
        all.undoneOneByOne();
        all.addsAtTheBorder();
        all.addsOfTheLastBlock();
        all.addsOfGroups();
        all.addsOfAllCells();
        all.addsOfFewerThanBefore();
        all.check.finish();
    }

    private void due(String call, long got, long want) {
        check.due(call, got, want);
    }

    private void dueRow(String call, int[] got, int... want) {
        check.dueRow(call, got, want);
    }

    /** ANSWERS of a part by all KINDS, asked and dropped again. */
    private static int[] answers(RangePlanner x, int first, int last, int time) {
        int[] row = new int[8];
        for (int kind = 0; kind < 8; kind++) {
            row[kind] = Look.answer(x, x.ask(kind, first, last, time));
            x.drop();
        }
        return row;
    }

    private void answerOfNone() {
        check.about("11 \"NoSuchElementException: none such\"");
        RangePlanner x = new RangePlanner();
        due("none is asked", Look.answer(x, 0), THROWN);
        x.ask(1, 0, 15, 0);
        due("question -1", Look.answer(x, -1), THROWN);
        due("question 0", Look.answer(x, 0), 1);
        due("question 1 of one", Look.answer(x, 1), THROWN);
        x.drop();
        due("it is dropped", Look.answer(x, 0), THROWN);
        x.back();
        due("it is there again", Look.answer(x, 0), 1);
        x.back();
        due("it was not asked", Look.answer(x, 0), THROWN);
        RangePlanner full = Look.full();
        check.due("question 23 of 24", Look.answer(full, 23) == THROWN, false);
        due("question 24 of 24", Look.answer(full, 24), THROWN);
    }

    private void answersOfOneCell() {
        check.about("11 ANSWERS of one CELL alone");
        RangePlanner x = Look.told("row 0,63,1,8,7,56,9,5");
        dueRow("0", answers(x, 0, 0, 0), 0, 1, 1, 0, 0, 1, 8, 0);
        dueRow("63", answers(x, 1, 1, 0), 63, 1, 1, 63, 63, 0, 8, 0);
        dueRow("1", answers(x, 2, 2, 0), 1, 1, 1, 1, 1, 0, 7, 0);
        dueRow("8", answers(x, 3, 3, 0), 8, 1, 1, 8, 8, 0, 7, 0);
        dueRow("7", answers(x, 4, 4, 0), 7, 1, 1, 7, 7, 0, 7, 0);
        dueRow("56", answers(x, 5, 5, 0), 56, 1, 1, 56, 56, 0, 7, 0);
        dueRow("9", answers(x, 6, 6, 0), 9, 1, 1, 9, 9, 0, 8, 0);
        dueRow("the last CELL", answers(x, 7, 7, 0), 5, 1, 1, 5, 5, 0, 7, 0);
    }

    private void answersOfAllCells() {
        check.about("11 ANSWERS of 60 CELLS");
        dueRow("all 0", answers(Look.cells(60, 0), 0, 59, 0), 0, 1, 60, 0, 0, 1, 8, 1770);
        dueRow("all 63", answers(Look.cells(60, 63), 0, 59, 0), 3780, 1, 60, 63, 226800, 0, 8, 1770);
        dueRow("all unlike", answers(Look.upwards(), 0, 59, 0), 1770, 60, 1, 0, 1770, 60, 1, 0);
        check.about("11 ANSWERS of 2 CELLS");
        dueRow("0, 0", answers(Look.told("row 0,0"), 0, 1, 0), 0, 1, 2, 0, 0, 1, 8, 1);
        dueRow("63, 62", answers(Look.told("row 63,62"), 0, 1, 0), 125, 2, 1, 62, 125, 0, 7, 0);
        dueRow("16 at first", answers(new RangePlanner(), 0, 15, 0), 0, 1, 16, 0, 0, 1, 8, 120);
    }

    private void answersBetweenTheirEnds() {
        check.about("\"ANSWERS, of the CELLS from the first to the last one\"");
        RangePlanner x = Look.told("row 1,2,4,8,16,32");
        for (int first = 0; first < 6; first++) {
            for (int last = first; last < 6; last++) {
                x.ask(0, first, last, 0);
                due("sum of " + first + " to " + last, x.answer(0), (1 << last + 1) - (1 << first));
                x.drop();
            }
        }
    }

    private void answersAtTheirTimes() {
        check.about("\"TIME k: the ROW as it is behind the first k CHANGES\"");
        StringBuilder text = new StringBuilder("row 50,60");
        for (int k = 1; k <= 32; k++) {
            text.append(";set 0 ").append(k);
        }
        RangePlanner x = Look.told(text.toString());
        for (int time = 0; time <= 32; time++) {
            x.ask(0, 0, 1, time);
            due("TIME " + time, x.answer(0), (time == 0 ? 50 : time) + 60);
            x.drop();
        }
        RangePlanner y = Look.told("row 1,2;ask sum 0 1");
        y.change(0, 60);
        due("a CHANGE that came behind it", y.answer(0), 3);
        y.cell(0, 5);
        due("a CELL at TIME 0", y.answer(0), 7);
    }

    private void whichOfSeveral() {
        check.about("\"which: that number, of several the least\"");
        RangePlanner x = Look.told("row 63,0,63,0,5,5,62,63");
        dueRow("63 0 63 0", answers(x, 0, 3, 0), 126, 2, 2, 0, 252, 1, 8, 2);
        due("of 63 0 63", answers(x, 0, 2, 0)[3], 63);
        due("of 63 0 63 0 5 5", answers(x, 0, 5, 0)[3], 0);
        due("of 63 0 5 5", answers(x, 2, 5, 0)[3], 5);
        due("of 62 63", answers(x, 6, 7, 0)[3], 62);
        due("of all", answers(x, 0, 7, 0)[3], 63);
        due("how often", answers(x, 0, 7, 0)[2], 3);
    }

    private void missingAllThatAreThere() {
        check.about("\"missing: the least number from 0 on that is not there\"");
        RangePlanner x = Look.upwards();
        for (int last = 0; last < 60; last++) {
            x.ask(5, 0, last, 0);
            due("0 to " + last, x.answer(0), last + 1);
            x.drop();
        }
        due("0 is not there", answers(x, 1, 59, 0)[5], 0);
        RangePlanner y = Look.told("row 0,1,2,4,3");
        due("3 is not there", answers(y, 0, 3, 0)[5], 3);
        due("in whichever order", answers(y, 0, 4, 0)[5], 5);
    }

    private void partsJoinedTwice() {
        check.about("\"parts: .. into how many parts all NODES fall\"");
        RangePlanner x = Look.told("row 8,16,17,1,2,10,63,7,56,54,55");
        due("1 and 0, 2 and 0, then 2 and 1", answers(x, 0, 2, 0)[6], 6);
        due("the same the other way round", answers(x, 3, 5, 0)[6], 6);
        due("both ways", answers(x, 0, 5, 0)[6], 6);
        due("7 and 7, 0 and 7, 7 and 0", answers(x, 6, 8, 0)[6], 7);
        due("6 and 6, 6 and 7", answers(x, 9, 10, 0)[6], 7);
        due("all: 0 1 2 7 6 are one", answers(x, 0, 10, 0)[6], 4);
    }

    private void atTheEnds() {
        check.about("12 \"A CELL at a TIME; NONE: others\"");
        RangePlanner x = Look.told("row 1,2,3;set 2 60;set 0 61;set 2 62");
        int[][] want = {{1, 1, 61, 61}, {2, 2, 2, 2}, {3, 60, 60, 62}};
        for (int i = -1; i <= 3; i++) {
            for (int time = -1; time <= 4; time++) {
                boolean there = i >= 0 && i < 3 && time >= 0 && time < 4;
                due("at(" + i + ", " + time + ")", x.at(i, time), there ? want[i][time] : NONE);
            }
        }
        RangePlanner full = Look.full();
        due("the last CELL", full.at(59, 0), 59);
        due("the last CHANGE, to 21", full.at(35, 32), 21);
        due("ahead of it", full.at(35, 31), 11 * 19 % 64);
        due("no CELL 60", full.at(60, 32), NONE);
        due("no TIME 33", full.at(59, 33), NONE);
    }

    private void ofTheEnds() {
        check.about("13 \"NONE: others\"");
        RangePlanner x = Look.told("row 1,2,3;set 0 0;ask pairs 0 2;ask sum 2 2 at 0");
        int[][] want = {{7, 0, 2, 1, 0, 1}, {0, 2, 2, 0, 1, 1}};
        for (int q = -1; q <= 2; q++) {
            for (int what = -1; what <= 6; what++) {
                boolean there = q >= 0 && q < 2 && what >= 0 && what < 6;
                due("of(" + q + ", " + what + ")", x.of(q, what), there ? want[q][what] : NONE);
            }
        }
        RangePlanner full = Look.full();
        due("question 23 of 24", full.of(23, 0), 7);
        due("question 24 of 24", full.of(24, 0), NONE);
    }

    private void alikeOnes() {
        check.about("13 \"4: the first one that is ALIKE (perhaps itself), 5: how many are\"");
        RangePlanner x = Look.told("row 1,2;set 0 0");
        for (int q = 0; q < 24; q++) {
            x.ask(2, 0, 1, 1);
            due("the first", x.of(q, 4), 0);
            due("how many", x.of(q, 5), q + 1);
            due("unlike ones", x.count(6), 1);
        }
        due("24 of the first", x.of(0, 5), 24);
        x.drop();
        due("one fewer", x.of(0, 5), 23);
        x.ask(3, 0, 1, 1);
        due("of another KIND: itself", x.of(23, 4), 23);
        due("of another KIND: one", x.of(23, 5), 1);
        due("unlike ones", x.count(6), 2);
        x.drop();
        x.ask(2, 0, 1, NONE);
        due("asked without a TIME", x.of(23, 4), 0);
        x.drop();
        x.ask(2, 0, 1, 0);
        due("of another TIME", x.of(23, 4), 23);
    }

    private void plannedNone() {
        check.about("14 \"of QUESTIONS of KINDS 0, 1, 4, 5, 7\"");
        for (int kind = 0; kind < 8; kind++) {
            boolean undone = kind == 2 || kind == 3 || kind == 6;
            RangePlanner x = new RangePlanner();
            x.ask(kind, 0, 0, 0);
            for (int order = 0; order < 3; order++) {
                due("KIND " + kind + ", how many", x.planned(order, 1, NONE), undone ? 0 : 1);
                due("KIND " + kind + ", the first", x.planned(order, 1, 0), undone ? NONE : 0);
                due("KIND " + kind + ", the second", x.planned(order, 1, 1), NONE);
            }
            due("KIND " + kind + ", THE UNDOING", x.undone(1, NONE), undone ? 1 : 0);
            due("KIND " + kind + ", THE UNDOING", x.undone(1, 0), undone ? 0 : NONE);
        }
    }

    private void plannedOneByOne() {
        check.about("14 \"The i-th QUESTION of THE PLAN, how many (i NONE); NONE: others, none such\"");
        RangePlanner x = new RangePlanner();
        for (int q = 0; q < 24; q++) {
            x.ask(0, 15, 15, 0);
        }
        for (int order = 0; order < 3; order++) {
            for (int b : new int[] {1, 60}) {
                due("i -2", x.planned(order, b, -2), NONE);
                due("i NONE", x.planned(order, b, NONE), 24);
                due("i 0", x.planned(order, b, 0), 0);
                due("i 23", x.planned(order, b, 23), 23);
                due("i 24", x.planned(order, b, 24), NONE);
            }
            due("BLOCK 0", x.planned(order, 0, 0), NONE);
            due("BLOCK 61", x.planned(order, 61, 0), NONE);
        }
        due("ORDER -1", x.planned(-1, 1, 0), NONE);
        due("ORDER 3", x.planned(3, 1, 0), NONE);
    }

    private void plannedByTheEdgesOfBlocks() {
        check.about("14 \"ORDER 0: by first / b; then last / b; then TIME; then numbers\"");
        RangePlanner x = Look.told("row 0,0,0,0,0,0,0,0;set 0 1;ask sum 4 7;ask sum 3 4;ask sum 0 4;ask sum 3 3"
            + ";ask sum 4 4 at 0;ask sum 0 7 at 0;ask sum 0 3");
        dueRow("BLOCK 4: 3 is the first one's, 4 the second one's", Look.plan(x, 0, 4), 3, 6, 5, 1, 2, 4, 0);
        dueRow("BLOCK 1", Look.plan(x, 0, 1), 6, 2, 5, 3, 1, 4, 0);
        dueRow("BLOCK 7: 7 alone is the second one's", Look.plan(x, 0, 7), 4, 1, 2, 3, 6, 5, 0);
        dueRow("BLOCK 8: one for all", Look.plan(x, 0, 8), 4, 5, 0, 1, 2, 3, 6);
        dueRow("BLOCK 60", Look.plan(x, 0, 60), 4, 5, 0, 1, 2, 3, 6);
    }

    private void plannedUpAndDown() {
        check.about("14 \"upwards, if first / b is even, else downwards; .. if last / b is even, else downwards\"");
        RangePlanner x = Look.told("row 0,0,0,0;set 0 1;ask sum 0 0 at 0;ask sum 0 0 at 1;ask sum 0 1 at 0"
            + ";ask sum 0 1 at 1;ask sum 1 1 at 0;ask sum 1 1 at 1;ask sum 1 2 at 0;ask sum 1 2 at 1;ask sum 1 3 at 0"
            + ";ask sum 2 2 at 1;ask sum 2 3 at 1;ask sum 3 3 at 0;ask sum 3 3 at 0;ask sum 1 1 at 1");
        dueRow("BLOCK 1", Look.plan(x, 1, 1), 0, 1, 3, 2, 8, 6, 7, 5, 13, 4, 9, 10, 11, 12);
        dueRow("BLOCK 2", Look.plan(x, 1, 2), 0, 2, 4, 1, 3, 5, 13, 7, 6, 8, 9, 10, 11, 12);
        dueRow("BLOCK 4", Look.plan(x, 1, 4), 0, 2, 4, 6, 8, 11, 12, 1, 3, 5, 7, 9, 10, 13);
    }

    private void plannedByTheCurve() {
        check.about("14 \"CURVE of x and y, which are 0 to 63\"");
        int[][] ends = {{0, 0}, {31, 31}, {0, 31}, {0, 32}, {0, 59}, {31, 59}, {31, 32}, {32, 32}, {32, 59}, {59, 59}};
        RangePlanner upwards = Look.cells(60, 0);
        RangePlanner downwards = Look.cells(60, 0);
        int[] want = new int[ends.length];
        int[] wantDown = new int[ends.length];
        for (int k = 0; k < ends.length; k++) {
            upwards.ask(0, ends[k][0], ends[k][1], 0);
            downwards.ask(0, ends[ends.length - 1 - k][0], ends[ends.length - 1 - k][1], 0);
            want[k] = k;
            wantDown[k] = ends.length - 1 - k;
        }
        dueRow("asked along it", Look.plan(upwards, 2, 1), want);
        dueRow("asked against it", Look.plan(downwards, 2, 1), wantDown);
        dueRow("BLOCK 60: numbers alone", Look.plan(downwards, 2, 60), want);
        RangePlanner x = Look.told("row 0,0;set 0 1;ask sum 0 0;ask sum 0 0 at 0;ask sum 0 0;ask sum 0 0 at 0");
        dueRow("of one place: TIME, then numbers", Look.plan(x, 2, 1), 1, 3, 0, 2);
    }

    /** All parts of six CELLS that stand together, numbered by first, then last. */
    private static RangePlanner partsFrom(int least) {
        RangePlanner x = Look.cells(60, 0);
        for (int first = least; first < least + 6; first++) {
            for (int last = first; last < least + 6; last++) {
                x.ask(0, first, last, 0);
            }
        }
        return x;
    }

    private void plannedByTheTurnsOfTheCurve() {
        check.about("14 \"if q is 0: if p is 1, x is 63 - x, y is 63 - y; then x and y change places\"");
        dueRow("0 to 5", Look.plan(partsFrom(0), 2, 1),
            0, 6, 1, 2, 3, 8, 7, 11, 12, 15, 18, 19, 20, 17, 16, 13, 14, 10, 9, 4, 5);
        dueRow("29 to 34", Look.plan(partsFrom(29), 2, 1),
            0, 6, 11, 7, 2, 1, 14, 10, 5, 4, 3, 8, 9, 13, 12, 15, 16, 18, 20, 19, 17);
        dueRow("54 to 59", Look.plan(partsFrom(54), 2, 1),
            0, 6, 1, 10, 9, 4, 5, 2, 3, 8, 7, 11, 12, 15, 18, 20, 19, 17, 16, 13, 14);
    }

    private void movesOfOne() {
        check.about("15 moves of one QUESTION");
        RangePlanner x = new RangePlanner();
        x.ask(0, 0, 0, 0);
        moves("the first CELL", x, 1, 0, 1, 1);
        RangePlanner y = Look.told("row 0" + ",0".repeat(59) + ";set 0 1".repeat(32) + ";ask sum 59 59");
        moves("the last CELL at the last TIME", y, 119, 32, 151, 151);
        y.weight(9);
        moves("WEIGHT 9", y, 119, 32, 407, 151);
        y.weight(0);
        moves("WEIGHT 0", y, 119, 32, 119, 151);
        y.ask(1, 59, 59, 32);
        moves("a second one by no MOVE", y, 119, 32, 119, 151);
        y.ask(2, 0, 0, 0);
        moves("one of THE UNDOING", y, 119, 32, 119, 151);
    }

    private void moves(String of, RangePlanner x, int... want) {
        for (int order = 0; order < 3; order++) {
            for (int what = 0; what < 4; what++) {
                due(of + ", ORDER " + order + " what " + what, x.moves(order, 60, what), want[what]);
            }
        }
    }

    private void movesOfMany() {
        check.about("15 moves of 24 QUESTIONS");
        RangePlanner x = Look.told("row 0" + ",0".repeat(59) + ";set 0 1".repeat(32));
        for (int k = 0; k < 12; k++) {
            x.ask(0, 0, 0, 32);
            x.ask(7, 59, 59, 32);
        }
        moves("there and back", x, 1 + 23 * 118, 32, 2715 + 32, 118);
        x.weight(9);
        moves("WEIGHT 9", x, 2715, 32, 2715 + 288, 118);
        due("what 4", x.moves(1, 60, 4), 4320 + 480);
        due("what 5", x.moves(1, 60, 5), NONE);
        due("what -1", x.moves(1, 60, -1), NONE);
    }

    private void movesOfFewerThanBefore() {
        check.about("15 moves, of fewer QUESTIONS than before");
        RangePlanner x = new RangePlanner();
        x.ask(0, 0, 0, 0);
        x.ask(0, 15, 15, 0);
        moves("two", x, 1 + 30, 0, 31, 30);
        due("a MOVE on the way to the second", x.move(9, 2), 1);
        moves("two, behind that", x, 31, 0, 31, 30);
        x.drop();
        moves("one", x, 1, 0, 1, 1);
        due("the first MOVE", x.move(0, 2), 0);
        x.drop();
        moves("none", x, 0, 0, 0, 0);
    }

    private void bounds() {
        check.about("15 \"BOUND, of ORDER 1: 3 b q and 2 (m + 1) (n + b), .. m n by b, rounded up\"");
        RangePlanner x = Look.cells(60, 0);
        due("of none, b 1", x.moves(1, 1, 4), 2 * 61 * 61);
        due("of none, b 60", x.moves(1, 60, 4), 2 * 2 * 120);
        x.ask(2, 0, 0, 0);
        due("of none of it", x.moves(1, 60, 4), 480);
        x.ask(0, 0, 0, 0);
        due("b 1", x.moves(1, 1, 4), 3 + 7442);
        due("b 2", x.moves(1, 2, 4), 6 + 2 * 31 * 62);
        due("b 7, rounded", x.moves(1, 7, 4), 21 + 2 * 10 * 67);
        due("b 30, even", x.moves(1, 30, 4), 90 + 2 * 3 * 90);
        due("b 31, rounded", x.moves(1, 31, 4), 93 + 2 * 3 * 91);
        due("b 59, rounded", x.moves(1, 59, 4), 177 + 2 * 3 * 119);
        due("b 60, even", x.moves(1, 60, 4), 180 + 480);
        RangePlanner two = Look.told("row 0,0;ask sum 0 1");
        due("2 CELLS, b 1", two.moves(1, 1, 4), 3 + 2 * 3 * 3);
        due("2 CELLS, b 2", two.moves(1, 2, 4), 6 + 2 * 2 * 4);
        due("2 CELLS, b 3", two.moves(1, 3, 4), 9 + 2 * 2 * 5);
        due("2 CELLS, b 60", two.moves(1, 60, 4), 180 + 2 * 2 * 62);
        due("of ORDER 0", two.moves(0, 1, 4), NONE);
        due("of ORDER 2", two.moves(2, 1, 4), NONE);
    }

    private void bestOfEqualOnes() {
        check.about("16 \"the b of 1 to n by which the COST of the whole PLAN is least, of equal ones the least\"");
        RangePlanner x = new RangePlanner();
        for (int order = 0; order < 3; order++) {
            due("of none", x.best(order, 0), 1);
            due("of none", x.best(order, 1), 0);
        }
        x.ask(0, 3, 8, 0);
        for (int order = 0; order < 3; order++) {
            due("of one", x.best(order, 0), 1);
            due("of one", x.best(order, 1), 9 + 3);
        }
        due("ORDER -1", x.best(-1, 0), NONE);
        due("ORDER 3", x.best(3, 0), NONE);
        due("what -1", x.best(0, -1), NONE);
        due("what 2", x.best(0, 2), NONE);
    }

    private void bestOfTheGreatest() {
        check.about("16 \"the b of 1 to n\"");
        // By BLOCK 1 to the QUESTION at TIME 1 first: 1 and 2 ENDS, 2 TURNS; by 2 to the other one: 3 and 2, 1 TURN.
        RangePlanner x = Look.told("row 0,0;set 0 1;ask sum 1 1 at 0;ask sum 0 0 at 1");
        x.weight(9);
        due("by 1", x.moves(0, 1, 2), 21);
        due("by 2", x.moves(0, 2, 2), 14);
        due("by more than n", x.moves(0, 60, 2), 14);
        due("n is the best", x.best(0, 0), 2);
        due("its COST", x.best(0, 1), 14);
        x.weight(0);
        due("without WEIGHT 1 is", x.best(0, 0), 1);
        due("its COST", x.best(0, 1), 3);
        RangePlanner y = Look.told("row 0" + ",0".repeat(59) + ";set 0 1".repeat(32) + ";ask sum 59 59 at 0;ask sum 0 0");
        y.weight(9);
        due("by 59", y.moves(0, 59, 2), 1 + 118 + 64 * 9);
        due("by 60", y.moves(0, 60, 2), 119 + 118 + 32 * 9);
        due("60 of 60", y.best(0, 0), 60);
    }

    private void splitOfFew() {
        check.about("17 \"SPLIT among k WORKERS (1 to 4) .. (some may have none)\"");
        RangePlanner x = new RangePlanner();
        x.ask(0, 0, 3, 0);
        for (int k = 1; k <= 4; k++) {
            due("one QUESTION", x.split(k, 0), 4);
            due("the first WORKER has it", x.split(k, 1), 1);
            for (int worker = 2; worker <= 4; worker++) {
                due("WORKER " + worker + " of " + k, x.split(k, worker), worker <= k ? 0 : NONE);
            }
        }
        due("k 0", x.split(0, 0), NONE);
        due("k 5", x.split(5, 0), NONE);
        due("what -1", x.split(4, -1), NONE);
        due("what 5", x.split(4, 5), NONE);
        x.ask(0, 12, 15, 0);
        x.ask(0, 12, 15, 0);
        // 4, then 24; alone 28: the second one is dearest by itself.
        due("one WORKER", x.split(1, 0), 28);
        due("two WORKERS", x.split(2, 0), 28);
        due("the first has all", x.split(2, 1), 3);
        due("as many WORKERS", x.split(3, 1), 3);
        due("one more WORKER", x.split(4, 1), 3);
    }

    private void splitByTheFirstRow() {
        check.about("17 \"the one with the most QUESTIONS in the first row, then in the second, on and on\"");
        RangePlanner x = Look.told("row 0" + ",0".repeat(19));
        for (int k = 0; k < 4; k++) {
            x.ask(0, 0, 0, 0);
            x.ask(0, 0, 3, 0);
        }
        x.set(0, 60);
        // 1 or 4 to the first one of a row, 3 to each other.
        int[][] want = {{22, 8}, {10, 4, 4}, {10, 4, 4, 0}, {4, 2, 2, 2, 2}};
        for (int k = 1; k <= 4; k++) {
            for (int what = 0; what <= k; what++) {
                due("split(" + k + ", " + what + ")", x.split(k, what), want[k - 1][what]);
            }
        }
        RangePlanner y = new RangePlanner();
        for (int k = 0; k < 24; k++) {
            y.ask(k % 2, 15, 15, 0);
        }
        for (int k = 1; k <= 4; k++) {
            due("24 alike", y.split(k, 0), 31);
            due("all in the first row", y.split(k, 1), 24);
            due("none in the last one", y.split(k, k), k == 1 ? 24 : 0);
        }
    }

    private void splitOfFewerThanBefore() {
        check.about("17 split, of fewer QUESTIONS than before, of more WORKERS first");
        RangePlanner x = new RangePlanner();
        for (int q = 0; q < 8; q++) {
            x.ask(0, 0, q % 2 == 0 ? 0 : 3, 0);
        }
        x.set(0, 60);
        due("eight, four WORKERS", x.split(4, 0), 4);
        due("eight, one WORKER", x.split(1, 0), 22);
        x.back();
        x.drop();
        x.drop();
        x.drop();
        x.set(0, 60);
        due("five, four WORKERS", x.split(4, 0), 4);
        int[] four = {2, 2, 1, 0};
        for (int worker = 1; worker <= 4; worker++) {
            due("five, WORKER " + worker, x.split(4, worker), four[worker - 1]);
        }
        due("five, two WORKERS", x.split(2, 0), 7);
        due("five, the first of two", x.split(2, 1), 3);
        for (int q = 0; q < 5; q++) {
            x.drop();
        }
        due("none", x.split(4, 0), 0);
        due("none", x.split(4, 1), 0);
    }

    private void moveToTheLastCell() {
        check.about("18 \"The i-th MOVE (from 0) .. NONE: others, none such\"");
        RangePlanner x = Look.told("row 0" + ",0".repeat(59) + ";set 0 1".repeat(32) + ";ask sum 59 59");
        move(x, 0, 1, 0, 0);
        move(x, 59, 1, 59, 0);
        move(x, 60, 2, 0, 0);
        move(x, 118, 2, 58, 0);
        move(x, 119, 4, 0, 0);
        move(x, 150, 4, 31, 0);
        move(x, 151, NONE, NONE, NONE);
        move(x, -1, NONE, NONE, NONE);
        due("what -1", x.move(0, -1), NONE);
        due("what 3", x.move(0, 3), NONE);
    }

    private void move(RangePlanner x, int i, int kind, int thing, int question) {
        due("move(" + i + ", 0)", x.move(i, 0), kind);
        due("move(" + i + ", 1)", x.move(i, 1), thing);
        due("move(" + i + ", 2)", x.move(i, 2), question);
    }

    private void moveToTheFirstCell() {
        check.about("18 \"0 LEFT downwards, .. 3 RIGHT downwards, .. the CELL that comes or goes\"");
        RangePlanner x = Look.cells(60, 0);
        x.ask(0, 59, 59, 0);
        x.ask(1, 59, 59, 0);
        x.ask(2, 0, 0, 0);
        x.ask(4, 0, 0, 0);
        x.set(0, 60);
        move(x, 118, 2, 58, 0);
        move(x, 119, 0, 58, 3);
        move(x, 177, 0, 0, 3);
        move(x, 178, 3, 59, 3);
        move(x, 236, 3, 1, 3);
        move(x, 237, NONE, NONE, NONE);
    }

    private void moveThroughAllChanges() {
        check.about("18 \"4 a CHANGE done, 5 undone, .. the CHANGE (from 0)\"");
        RangePlanner x = Look.told("row 0,0" + ";set 0 1".repeat(32) + ";ask sum 1 1;ask sum 1 1 at 0");
        x.set(1, 1);
        dueRow("odd: TIME downwards", Look.plan(x, 1, 1), 0, 1);
        move(x, 2, 2, 0, 0);
        move(x, 3, 4, 0, 0);
        move(x, 34, 4, 31, 0);
        move(x, 35, 5, 31, 1);
        move(x, 66, 5, 0, 1);
        move(x, 67, NONE, NONE, NONE);
    }

    private void savesOfFew() {
        check.about("19 \"(below 0: it would be more; 0 for KINDS 2, 3, 6); -100000: none such\"");
        RangePlanner x = Look.told("row 0" + ",0".repeat(59) + ";set 0 1".repeat(32) + ";ask sum 59 59");
        due("the only one: the whole COST", x.saves(0), 151);
        due("none such", x.saves(1), -100000);
        due("none such", x.saves(-1), -100000);
        x.ask(1, 59, 59, 32);
        due("one of two alike: nothing", x.saves(0), 0);
        due("one of two alike: nothing", x.saves(1), 0);
        for (int kind : new int[] {2, 3, 6}) {
            x.ask(kind, 0, 59, 0);
            due("KIND " + kind, x.saves(x.count(2) - 1), 0);
        }
        x.weight(9);
        x.ask(0, 0, 0, 0);
        due("one on the way: nothing", x.saves(5), 0);
        RangePlanner none = new RangePlanner();
        due("none is asked", none.saves(0), -100000);
        RangePlanner full = Look.full();
        check.due("question 23 of 24", full.saves(23) == -100000, false);
        due("question 24 of 24", full.saves(24), -100000);
    }

    private void wouldOfFew() {
        check.about("20 \"By how much it would be more with one more QUESTION (.. KINDS 2, 3, 6: 0); -100000: others\"");
        RangePlanner x = Look.told("row 0" + ",0".repeat(59) + ";set 0 1".repeat(32));
        due("the first: the whole COST", x.would(0, 59, 59, 32), 151);
        due("TIME NONE", x.would(0, 59, 59, NONE), 151);
        due("TIME 0", x.would(0, 59, 59, 0), 119);
        due("TIME 33", x.would(0, 59, 59, 33), -100000);
        due("TIME -2", x.would(0, 59, 59, -2), -100000);
        due("CELL 60", x.would(0, 59, 60, 0), -100000);
        due("CELL -1", x.would(0, -1, 0, 0), -100000);
        due("first above last", x.would(0, 59, 58, 0), -100000);
        due("KIND -1", x.would(-1, 0, 0, 0), -100000);
        due("KIND 7", x.would(7, 0, 0, 0), 1);
        due("KIND 8", x.would(8, 0, 0, 0), -100000);
        for (int kind : new int[] {2, 3, 6}) {
            due("KIND " + kind, x.would(kind, 59, 59, 32), 0);
            due("KIND " + kind + ", others", x.would(kind, 59, 58, 0), -100000);
            due("KIND " + kind + ", others", x.would(kind, 0, 0, 33), -100000);
        }
        x.ask(0, 59, 59, 32);
        due("one that is alike", x.would(0, 59, 59, 32), 0);
        due("of like ends, of another KIND", x.would(5, 59, 59, 32), 0);
        due("none came", x.count(2), 1);
    }

    private void wouldOnTopOf24() {
        check.about("20 \"as the last one, though there may be 24 already\"");
        RangePlanner x = new RangePlanner();
        for (int q = 0; q < 24; q++) {
            x.ask(0, 0, q % 2 == 0 ? 0 : 9, 0);
        }
        x.set(0, 60);
        due("behind the 24th", x.would(0, 0, 9, 0), 0);
        due("behind the 24th", x.would(0, 0, 0, 0), 9);
        due("behind the 24th", x.would(7, 15, 15, NONE), 15 + 6);
        due("24 there are", x.count(2), 24);
        due("the 25th is not there", x.of(24, 0), NONE);
        due("not of THE PLAN", x.planned(0, 60, NONE), 24);
        due("the COST stays", x.moves(0, 60, 2), 1 + 23 * 9);
        due("no ACT", x.count(9), 12);
        x.set(0, 1);
        due("by BLOCK 1 the last of those that have CELL 0 alone", x.would(0, 0, 0, 0), 0);
    }

    private void undoneOneByOne() {
        check.about("21 \"The i-th QUESTION of THE UNDOING of a BLOCK, how many (i NONE); NONE: others, none such\"");
        RangePlanner x = new RangePlanner();
        for (int q = 0; q < 24; q++) {
            x.ask(2, 15, 15, 0);
        }
        for (int b : new int[] {1, 60}) {
            due("i -2", x.undone(b, -2), NONE);
            due("i NONE", x.undone(b, NONE), 24);
            due("i 0", x.undone(b, 0), 0);
            due("i 23", x.undone(b, 23), 23);
            due("i 24", x.undone(b, 24), NONE);
        }
        due("BLOCK 0", x.undone(0, NONE), NONE);
        due("BLOCK 61", x.undone(61, NONE), NONE);
        check.about("\"by TIME, then first / b, then last, then numbers\"");
        RangePlanner y = Look.told("row 0,0,0,0,0,0,0,0;set 0 1;ask often 4 7;ask often 4 6;ask often 3 7;ask often 3 6"
            + ";ask which 0 7;ask parts 4 7 at 0;ask often 0 6;ask often 3 6");
        dueRow("BLOCK 4", Look.undoing(y, 4), 5, 3, 6, 7, 2, 4, 1, 0);
        dueRow("BLOCK 1", Look.undoing(y, 1), 5, 6, 4, 3, 7, 2, 1, 0);
        dueRow("BLOCK 60", Look.undoing(y, 60), 5, 1, 3, 6, 7, 0, 2, 4);
    }

    private void adds(String of, RangePlanner x, int b, int adds, int groups, int deepest) {
        due(of + ", ADDS", x.adds(b, 0), adds);
        due(of + ", GROUPS", x.adds(b, 1), groups);
        due(of + ", DEEPEST", x.adds(b, 2), deepest);
    }

    private static RangePlanner eight(int... ends) {
        RangePlanner x = Look.told("row 0,0,0,0,0,0,0,0;set 0 1");
        for (int k = 0; k < ends.length; k += 2) {
            x.ask(2, ends[k], ends[k + 1], 0);
        }
        return x;
    }

    private void addsAtTheBorder() {
        check.about("22 \"if its last CELL is ahead of the BORDER, its CELLS come .. Else\"");
        adds("none", eight(), 3, 0, 0, 0);
        adds("the last CELL ahead of it", eight(0, 2), 3, 3, 1, 3);
        adds("the same twice", eight(0, 2, 0, 2), 3, 6, 1, 3);
        adds("the BORDER itself", eight(0, 3), 3, 4, 1, 4);
        adds("the BORDER twice: it stays", eight(0, 3, 0, 3), 3, 7, 1, 4);
        adds("one CELL ahead of it", eight(2, 3), 3, 2, 1, 2);
        adds("one CELL", eight(2, 2), 3, 1, 1, 1);
        adds("the BORDER first", eight(3, 3), 3, 1, 1, 1);
        adds("ahead of it, then behind it", eight(0, 2, 0, 4), 3, 8, 1, 5);
        adds("a deeper one ahead of a longer one", eight(0, 3, 2, 4), 3, 4 + 2, 1, 4);
        adds("what stays is held with the next one's", eight(2, 4, 0, 4), 3, 3 + 3, 1, 5);
        due("BLOCK 0", eight(0, 3).adds(0, 0), NONE);
        due("BLOCK 61", eight(0, 3).adds(61, 0), NONE);
        due("what -1", eight(0, 3).adds(1, -1), NONE);
        due("what 3", eight(0, 3).adds(1, 3), NONE);
    }

    private void addsOfTheLastBlock() {
        check.about("22 \"its BORDER is b more than b times that (n at most)\"");
        adds("BORDER 8, not 9", eight(6, 7), 3, 2, 1, 2);
        adds("the last CELL", eight(7, 7), 3, 1, 1, 1);
        adds("twice: nothing stays", eight(6, 7, 6, 7), 3, 4, 1, 2);
        adds("BLOCK 7: BORDER 7, CELL 7 stays", eight(0, 7, 0, 7), 7, 8 + 7, 1, 8);
        adds("BLOCK 8: BORDER 8", eight(0, 7, 0, 7), 8, 16, 1, 8);
        adds("BLOCK 60: BORDER 8", eight(0, 7, 0, 7), 60, 16, 1, 8);
        adds("BLOCK 1: BORDER 1", eight(0, 7, 0, 7), 1, 8 + 1, 1, 8);
        adds("BLOCK 1, the last CELL", eight(7, 7, 7, 7), 1, 2, 1, 1);
    }

    private void addsOfGroups() {
        check.about("22 \"nothing is held as it begins .. At the end of a GROUP all is undone\"");
        adds("two blocks", eight(0, 4, 5, 7), 3, 5 + 3, 2, 5);
        adds("two blocks, the deeper one second", eight(2, 3, 3, 7), 3, 2 + 5, 2, 5);
        RangePlanner x = eight(0, 4);
        x.ask(3, 0, 4, 1);
        adds("two TIMES", x, 3, 10, 2, 5);
        x.ask(6, 0, 4, 1);
        adds("two of the second TIME", x, 3, 13, 2, 5);
        x.ask(0, 0, 7, 1);
        adds("one of THE PLAN", x, 3, 13, 2, 5);
        RangePlanner y = Look.told("row 0,0" + ";set 0 1".repeat(32));
        for (int time = 0; time < 24; time++) {
            y.ask(2, time % 2, 1, time);
        }
        adds("24 GROUPS", y, 1, 12 * 2 + 12, 24, 2);
    }

    private void addsOfAllCells() {
        check.about("22 adds of 60 CELLS and 24 QUESTIONS");
        RangePlanner x = Look.cells(60, 0);
        for (int q = 0; q < 24; q++) {
            x.ask(6, 0, 59, 0);
        }
        adds("BLOCK 1", x, 1, 59 + 24, 1, 60);
        adds("BLOCK 59", x, 59, 1 + 24 * 59, 1, 60);
        adds("BLOCK 60", x, 60, 24 * 60, 1, 60);
    }

    private void addsOfFewerThanBefore() {
        check.about("22 adds, of fewer QUESTIONS than before");
        RangePlanner x = eight(0, 1, 0, 7);
        adds("two", x, 3, 2 + 8, 1, 8);
        x.drop();
        adds("one", x, 3, 2, 1, 2);
        x.drop();
        adds("none", x, 3, 0, 0, 0);
    }
}
