/** Promises 23 to 29, sentence by sentence: the WINDOW at both ends of its WALK, what it holds, what is counted. */
public final class EdgeWalkTest {
    private static final int NONE = RangePlanner.NONE;

    private final Check check = new Check();

    public static void main(String[] args) {
        EdgeWalkTest all = new EdgeWalkTest();
        all.oneMoveTo400();
        all.walkToTheLast();
        all.walkMoveByMove();
        all.doneByNoMove();
        all.doneByTheLastMove();
        all.toldAnewOnTheWay();
        all.setAnewOnTheWay();
        all.doneIfThereAreFewer();
        all.walkIfThereAreFewer();
        all.homeFromTheEnds();
        all.homeOnTheWay();
        all.windowAtFirst();
        all.windowsNextOne();
        all.endsAndTurnsSinceText();
        all.unlikeNumbersThatItHolds();
        all.holdsAtTheEnds();
        all.tellsOfNothing();
        all.tellsOfAllCells();
        all.touchedAtTheEnds();
        all.touchedNone();
        all.touchedAll();
        all.countedQuestionsOfACell();
        all.countedAtTheFull();
        all.countedActs();
        all.check.finish();
    }

    private void due(String call, long got, long want) {
        check.due(call, got, want);
    }

    private void dueRow(String call, int[] got, int... want) {
        check.dueRow(call, got, want);
    }

    /** 2747 MOVES: 24 times from one end of 60 CELLS to the other, at TIME 32. */
    private static RangePlanner longWay() {
        RangePlanner x = Look.told("row 0" + ",0".repeat(59) + ";set 0 1".repeat(32));
        for (int k = 0; k < 12; k++) {
            x.ask(0, 0, 0, 32);
            x.ask(7, 59, 59, 32);
        }
        x.set(0, 60);
        return x;
    }

    private void oneMoveTo400() {
        check.about("23 \"The WINDOW makes n MOVES (1 to 400) of the WALK .. NONE: others\"");
        RangePlanner x = longWay();
        due("n -1", x.walk(-1), NONE);
        due("n 0", x.walk(0), NONE);
        due("n 401", x.walk(401), NONE);
        dueRow("it stays", Look.window(x), 0, -1, 0, 0, 0, 0, 0, 0);
        due("n 1", x.walk(1), 1);
        dueRow("one MOVE", Look.window(x), 0, 0, 0, 0, 0, 1, 0, 1);
        due("n 400", x.walk(400), 400);
        due("400 MOVES more", x.window(5) + x.window(6), 401);
    }

    private void walkToTheLast() {
        check.about("23 \"as many as there are (to the last QUESTION): how many\"");
        RangePlanner x = longWay();
        for (int k = 0; k < 6; k++) {
            due("400", x.walk(400), 400);
        }
        due("the rest", x.walk(400), 2747 - 2400);
        dueRow("window", Look.window(x), 59, 59, 32, 24, NONE, 2715, 32, 1);
        due("no more", x.walk(400), 0);
        due("no more", x.walk(1), 0);
        RangePlanner one = new RangePlanner();
        one.ask(0, 0, 0, 0);
        due("one there is, of 1", one.walk(1), 1);
        one.home();
        due("one there is, of 2", one.walk(2), 1);
        one.home();
        due("one there is, of 400", one.walk(400), 1);
    }

    private void walkMoveByMove() {
        check.about("23 each MOVE of the WALK is the one that move() tells");
        RangePlanner x = Look.told("row 0,1,2,3,4,5;set 0 6;set 5 7;ask sum 2 3;ask sum 0 5 at 0;ask sum 1 1 at 1"
            + ";ask sum 4 5;ask sum 4 4 at 0");
        x.set(0, 6);
        dueRow("THE PLAN", Look.plan(x, 0, 6), 1, 4, 2, 0, 3);
        int moves = x.moves(0, 6, 0) + x.moves(0, 6, 1);
        int[] at = {0, -1, 0};
        for (int i = 0; i < moves; i++) {
            int kind = x.move(i, 0);
            due("to the QUESTION that is next", x.move(i, 2), x.window(4));
            at[kind < 4 ? kind == 0 || kind == 2 ? 0 : 1 : 2] += kind == 1 || kind == 2 || kind == 4 ? 1 : -1;
            due("a MOVE", x.walk(1), 1);
            for (int what = 0; what < 3; what++) {
                due("MOVE " + i + ", window(" + what + ")", x.window(what), at[what]);
            }
        }
        due("no more", x.walk(1), 0);
        due("no more", x.move(moves, 0), NONE);
        due("all are DONE", x.window(3), 5);
    }

    private void doneByNoMove() {
        check.about("23 \"(A QUESTION is DONE as soon as it is come to, also by no MOVE.)\"");
        RangePlanner x = new RangePlanner();
        for (int q = 0; q < 24; q++) {
            x.ask(new int[] {0, 1, 4, 5, 7}[q % 5], 0, 2, 0);
        }
        due("two MOVES", x.walk(2), 2);
        due("none is DONE", x.window(3), 0);
        due("the third one", x.walk(1), 1);
        due("all are", x.window(3), 24);
        due("no next one", x.window(4), NONE);
        RangePlanner y = Look.told("row 0,0;ask sum 0 0;ask sum 0 0;ask sum 0 1");
        due("as many as there are to the third", y.walk(1), 1);
        dueRow("two of three", Look.window(y), 0, 0, 0, 2, 2, 1, 0, 1);
        y.ask(0, 0, 0, 0);
        dueRow("one told where it is: not of those that it came to", Look.window(y), 0, 0, 0, 2, 2, 1, 0, 1);
        y.set(0, 1);
        dueRow("next as it is SET", Look.window(y), 0, 0, 0, 2, 3, 1, 0, 1);
        due("that one by no MOVE, then one", y.walk(1), 1);
        dueRow("all are DONE", Look.window(y), 0, 1, 0, 4, NONE, 2, 0, 1);
    }

    private void doneByTheLastMove() {
        check.about("23 \"A QUESTION is DONE as soon as it is come to\", an end or a TURN short of it");
        RangePlanner x = Look.told("row 0,0,0;set 0 1;set 0 2;ask sum 1 2");
        due("an end and two TURNS short", x.walk(3), 3);
        dueRow("window", Look.window(x), 0, 2, 0, 0, 0, 3, 0, 1);
        due("two TURNS short", x.walk(1), 1);
        dueRow("window", Look.window(x), 1, 2, 0, 0, 0, 4, 0, 1);
        due("a TURN short", x.walk(1), 1);
        dueRow("window", Look.window(x), 1, 2, 1, 0, 0, 4, 1, 1);
        due("there", x.walk(1), 1);
        dueRow("window", Look.window(x), 1, 2, 2, 1, NONE, 4, 2, 1);
    }

    private void toldAnewOnTheWay() {
        check.about("\"what is told .. leaves it where it is, but THE PLAN is as it is then\"");
        RangePlanner x = Look.told("row 0,0,0,0,0,0,0,0;ask sum 6 7");
        due("on its way to the last CELLS", x.walk(5), 5);
        dueRow("window", Look.window(x), 0, 4, 0, 0, 0, 5, 0, 1);
        x.ask(0, 0, 1, 0);
        dueRow("another one is the next", Look.window(x), 0, 4, 0, 0, 1, 5, 0, 1);
        due("to it, from where it is", x.walk(3), 3);
        dueRow("window", Look.window(x), 0, 1, 0, 1, 0, 8, 0, 1);
        x.drop();
        dueRow("one fewer: that many are all", Look.window(x), 0, 1, 0, 1, NONE, 8, 0, 1);
        x.back();
        dueRow("one more", Look.window(x), 0, 1, 0, 1, 0, 8, 0, 1);
        x.change(1, 9);
        x.cell(7, 3);
        x.weight(0);
        x.ask(2, 0, 7, 0);
        dueRow("what is not of THE PLAN", Look.window(x), 0, 1, 0, 1, 0, 8, 0, 1);
        due("on", x.walk(400), 6 + 6);
    }

    private void setAnewOnTheWay() {
        check.about("\"SET anew leaves it where it is .. what is DONE is that many of it\"");
        RangePlanner x = Look.told("row 0,0,0,0,0,0;ask sum 4 5;ask sum 2 3;ask sum 0 1");
        x.set(0, 1);
        due("to the first", x.walk(2), 2);
        due("the next", x.window(4), 1);
        x.set(0, 60);
        dueRow("by numbers", Look.plan(x, 0, 60), 0, 1, 2);
        dueRow("one of it is DONE", Look.window(x), 0, 1, 0, 1, 1, 2, 0, 1);
        due("to the second", x.walk(4), 4);
        dueRow("window", Look.window(x), 2, 3, 0, 2, 2, 6, 0, 1);
        x.set(0, 1);
        dueRow("back to the other one", Look.window(x), 2, 3, 0, 2, 0, 6, 0, 1);
        due("the last one", x.walk(400), 4);
        dueRow("all are DONE", Look.window(x), 4, 5, 0, 3, NONE, 10, 0, 1);
        x.set(2, 60);
        dueRow("all by any ORDER", Look.window(x), 4, 5, 0, 3, NONE, 10, 0, 1);
        due("no MOVE", x.walk(400), 0);
    }

    private void doneIfThereAreFewer() {
        check.about("\"that many of it (all, if there are fewer)\"");
        RangePlanner x = Look.told("row 0,0,0,0;ask sum 0 0;ask sum 0 1;ask sum 0 2");
        x.walk(400);
        for (int left = 2; left >= 0; left--) {
            due("drop", x.drop(), left);
            due("all are DONE", x.window(3), left);
            due("no next one", x.window(4), NONE);
        }
        x.ask(0, 3, 3, 0);
        due("as many as it came to", x.window(3), 1);
        due("no next one", x.window(4), NONE);
        due("its place", x.window(1), 2);
    }

    private void walkIfThereAreFewer() {
        check.about("23 walk() while there are fewer: the WALK is at its end so");
        for (int left = 2; left >= 0; left--) {
            RangePlanner x = Look.told("row 0,0,0,0;ask sum 0 0;ask sum 0 1;ask sum 0 2");
            x.walk(400);
            for (int k = 3; k > left; k--) {
                x.drop();
            }
            due("no MOVE", x.walk(1), 0);
            due("all that are left are DONE", x.window(3), left);
            x.ask(0, 0, 3, 0);
            due("the new one is not", x.window(3), left);
            due("it is the next", x.window(4), left);
            due("one MOVE to it", x.walk(400), 1);
            dueRow("window", Look.window(x), 0, 3, 0, left + 1, NONE, 4, 0, 1);
        }
    }

    private void homeFromTheEnds() {
        check.about("24 \"HOME: how many MOVES that took\"");
        RangePlanner x = new RangePlanner();
        due("at first", x.home(), 0);
        homeFrom(0, 0, 0, 1);
        homeFrom(0, 59, 0, 60);
        homeFrom(0, 59, 32, 92);
        homeFrom(1, 1, 0, 1 + 1 + 1);
        homeFrom(1, 2, 1, 2 + 1 + 1 + 1);
        homeFrom(59, 59, 0, 1 + 59 + 59);
        homeFrom(59, 59, 32, 1 + 59 + 59 + 32);
    }

    private void homeFrom(int first, int last, int time, int want) {
        String from = first + " to " + last + " at " + time;
        RangePlanner x = Look.told("row 0" + ",0".repeat(59) + ";set 0 1".repeat(32));
        x.ask(0, first, last, time);
        int there = x.walk(400);
        due(from, x.home(), want);
        dueRow(from, Look.window(x), 0, -1, 0, 0, 0, there + want - 2 * time, 2 * time, 0);
        due(from + ", at home", x.home(), 0);
        due(from + ", the same WALK again", x.walk(400), there);
        due(from + ", DONE", x.window(3), 1);
    }

    private void homeOnTheWay() {
        check.about("24 \"it holds nothing, none is DONE\"");
        RangePlanner x = Look.told("row 1,2,3,4;set 3 9;ask sum 3 3;ask sum 0 0 at 0");
        // To CELL 0 alone; then RIGHT upwards to 3, LEFT upwards to 3, a TURN.
        int[] home = {1, 2, 3, 4, 3 + 1 + 1, 2 + 2 + 2, 1 + 3 + 3, 1 + 3 + 3 + 1};
        for (int n = 1; n <= 8; n++) {
            due("walk(" + n + ")", x.walk(n), n);
            due("home", x.home(), home[n - 1]);
            due("it holds nothing", x.tells(1), 0);
            due("none is DONE", x.window(3), 0);
            due("the first one is next", x.window(4), 1);
        }
        due("no ACT", x.count(9), 0);
        due("what is asked stays", x.count(2), 2);
    }

    private void windowAtFirst() {
        check.about("25 \"NONE: others\"");
        RangePlanner x = new RangePlanner();
        due("what -1", x.window(-1), NONE);
        due("what 8", x.window(8), NONE);
        check.about("\"LEFT 0, RIGHT -1 (it holds nothing), NOW 0 at first\"");
        dueRow("window", Look.window(x), 0, -1, 0, 0, NONE, 0, 0, 0);
        x.ask(0, 0, 0, 0);
        dueRow("a first QUESTION", Look.window(x), 0, -1, 0, 0, 0, 0, 0, 0);
    }

    private void windowsNextOne() {
        check.about("25 \"4: the next one of the WALK (NONE: none)\"");
        RangePlanner x = new RangePlanner();
        due("none is asked", x.window(4), NONE);
        x.ask(2, 0, 0, 0);
        x.ask(3, 0, 0, 0);
        x.ask(6, 0, 0, 0);
        due("none of THE PLAN", x.window(4), NONE);
        x.ask(0, 0, 1, 0);
        due("the first of THE PLAN", x.window(4), 3);
        x.walk(1);
        due("on the way", x.window(4), 3);
        x.walk(1);
        due("all are DONE", x.window(4), NONE);
        x.ask(1, 0, 1, 0);
        due("one more", x.window(4), 4);
        x.home();
        due("the first again", x.window(4), 3);
    }

    private void endsAndTurnsSinceText() {
        check.about("25 \"5: ENDS, 6: TURNS since text() or at first\"");
        RangePlanner x = Look.told("row 1,2;set 0 3;ask sum 0 1");
        x.walk(400);
        x.home();
        dueRow("of WALK and HOME", Look.window(x), 0, -1, 0, 0, 0, 4, 2, 0);
        x.moves(1, 1, 0);
        x.move(2, 0);
        x.split(4, 0);
        x.best(1, 0);
        dueRow("not of what THE PLAN would take", Look.window(x), 0, -1, 0, 0, 0, 4, 2, 0);
        due("a FAULT", Check.tell(x, "row 1"), Check.fault(5, 5));
        dueRow("stay", Look.window(x), 0, -1, 0, 0, 0, 4, 2, 0);
        due("a text", Check.tell(x, "row 1,2;set 0 3;ask sum 0 1"), 3);
        dueRow("as at first", Look.window(x), 0, -1, 0, 0, 0, 0, 0, 0);
    }

    private void unlikeNumbersThatItHolds() {
        check.about("25 \"7: unlike numbers that it holds\"");
        RangePlanner x = Look.upwards();
        x.ask(0, 0, 59, 0);
        due("none", x.window(7), 0);
        for (int n = 1; n <= 60; n++) {
            x.walk(1);
            due("MOVE " + n, x.window(7), n);
        }
        RangePlanner y = Look.cells(60, 63);
        y.ask(0, 0, 59, 0);
        y.walk(1);
        due("one CELL", y.window(7), 1);
        y.walk(400);
        due("60 CELLS of one number", y.window(7), 1);
    }

    private void holdsAtTheEnds() {
        check.about("26 \"How often the WINDOW holds a number; NONE: no such number\"");
        RangePlanner x = Look.cells(60, 63);
        x.ask(0, 0, 59, 0);
        due("number -1", x.holds(-1), NONE);
        due("number 64", x.holds(64), NONE);
        due("it holds nothing", x.holds(63), 0);
        x.walk(1);
        due("one CELL", x.holds(63), 1);
        x.walk(400);
        due("60 CELLS", x.holds(63), 60);
        due("number 0", x.holds(0), 0);
        due("number 62", x.holds(62), 0);
        RangePlanner y = Look.told("row 0,0,1;set 0 63;set 2 0;ask sum 0 1");
        y.walk(2);
        due("TIME 0", y.holds(0), 2);
        y.walk(1);
        due("TIME 1", y.holds(0), 1);
        due("TIME 1", y.holds(63), 1);
        y.walk(1);
        due("TIME 2, a CELL that it has not", y.holds(0), 1);
        y.home();
        due("it holds nothing", y.holds(0) + y.holds(63), 0);
    }

    private void tellsOfNothing() {
        check.about("27 \"(it may hold nothing); NONE: others\"");
        RangePlanner x = Look.told("row 0,0;ask sum 0 1");
        for (int kind = -1; kind <= 8; kind++) {
            boolean others = kind < 0 || kind == 2 || kind == 3 || kind == 6 || kind > 7;
            due("nothing, KIND " + kind, x.tells(kind), others ? NONE : 0);
        }
        x.walk(1);
        long[] one = {0, 1, NONE, NONE, 0, 1, NONE, 0};
        for (int kind = 0; kind < 8; kind++) {
            due("0 alone, KIND " + kind, x.tells(kind), one[kind]);
        }
        x.walk(1);
        long[] two = {0, 1, NONE, NONE, 0, 1, NONE, 1};
        for (int kind = 0; kind < 8; kind++) {
            due("0 twice, KIND " + kind, x.tells(kind), two[kind]);
        }
    }

    private void tellsOfAllCells() {
        check.about("27 tells of 60 CELLS");
        RangePlanner x = Look.cells(60, 63);
        x.ask(0, 0, 59, 0);
        x.walk(400);
        long[] alike = {3780, 1, NONE, NONE, 226800, 0, NONE, 1770};
        RangePlanner y = Look.upwards();
        y.ask(0, 0, 59, 0);
        y.walk(400);
        long[] unlike = {1770, 60, NONE, NONE, 1770, 60, NONE, 0};
        for (int kind = 0; kind < 8; kind++) {
            due("all 63, KIND " + kind, x.tells(kind), alike[kind]);
            due("0 to 59, KIND " + kind, y.tells(kind), unlike[kind]);
        }
    }

    private void touchedAtTheEnds() {
        check.about("28 \"How many ANSWERS would be others, if a CELL were v at TIME 0; NONE: others\"");
        RangePlanner x = Look.told("row 1,2,3;ask sum 0 0;ask sum 0 2;ask sum 2 2");
        due("the first CELL, the least number", x.touched(0, 0), 2);
        due("the first CELL, the greatest number", x.touched(0, 63), 2);
        due("the middle one", x.touched(1, 63), 1);
        due("the last CELL", x.touched(2, 63), 2);
        due("CELL -1", x.touched(-1, 0), NONE);
        due("CELL 3", x.touched(3, 0), NONE);
        due("number -1", x.touched(0, -1), NONE);
        due("number 64", x.touched(0, 64), NONE);
        due("CELL 0 stays", x.at(0, 0), 1);
    }

    private void touchedNone() {
        check.about("28 touched, no ANSWER would be another");
        RangePlanner x = Look.told("row 1,2,3,3;set 0 5;ask sum 0 1;ask sum 1 2;ask unlike 1 2;ask often 1 2;ask missing 2 3");
        due("it is so", x.touched(1, 2), 0);
        due("a CHANGE covers it", x.touched(0, 9), 0);
        due("the sum alone is another", x.touched(2, 9), 1);
        due("missing is as it was", x.touched(3, 9), 0);
        due("missing is another", x.touched(3, 0), 1);
        due("none is asked", new RangePlanner().touched(0, 63), 0);
    }

    private void touchedAll() {
        check.about("28 touched, all ANSWERS would be others");
        RangePlanner x = Look.told("row 1,2;ask sum 0 1");
        for (int q = 1; q < 24; q++) {
            x.ask(0, 0, 1, 0);
        }
        due("ALIKE ones each", x.touched(0, 63), 24);
        x.walk(400);
        due("the WINDOW has it", x.touched(0, 63), 24);
        due("it holds what it held", x.tells(0), 3);
        due("no ACT of it", x.count(9), 12);
    }

    private void countedQuestionsOfACell() {
        check.about("29 \"7: the greatest number of QUESTIONS that have one CELL among theirs (0 without), 8: the first such\"");
        RangePlanner x = Look.told("row 0,0,0,0");
        due("none", x.count(7), 0);
        due("none: the first of all", x.count(8), 0);
        x.ask(2, 3, 3, 0);
        due("the last CELL", x.count(7), 1);
        due("the last CELL", x.count(8), 3);
        x.ask(0, 1, 2, 0);
        due("several: the first of them", x.count(7), 1);
        due("several: the first of them", x.count(8), 1);
        x.ask(0, 2, 3, 0);
        due("2 and 3 have two", x.count(7), 2);
        due("the first of them", x.count(8), 2);
        x.ask(0, 0, 1, 0);
        due("all but 0 have two", x.count(8), 1);
        x.ask(0, 0, 3, 0);
        due("one for all", x.count(7), 3);
        due("still", x.count(8), 1);
        x.drop();
        x.drop();
        due("dropped", x.count(8), 2);
    }

    private void countedAtTheFull() {
        check.about("29 count, at its edges");
        RangePlanner x = new RangePlanner();
        due("what -1", x.count(-1), NONE);
        due("what 11", x.count(11), NONE);
        RangePlanner full = Look.full();
        due("CELLS", full.count(0), 60);
        due("CHANGES", full.count(1), 32);
        due("QUESTIONS", full.count(2), 24);
        due("unlike QUESTIONS", full.count(6), 24);
        due("ACTS", full.count(9), 12);
        due("bytes", full.count(10), 600);
        RangePlanner same = Look.cells(60, 0);
        for (int q = 0; q < 24; q++) {
            same.ask(0, 59, 59, 0);
        }
        due("ALIKE ones once", same.count(6), 1);
        due("all 24 have it", same.count(7), 24);
        due("the last CELL", same.count(8), 59);
    }

    private void countedActs() {
        check.about("29 \"9: ACTS that can be taken BACK, 10: bytes on THE TAPE\"");
        RangePlanner x = new RangePlanner();
        for (int k = 1; k <= 14; k++) {
            x.weight(k % 10);
            due("ACTS", x.count(9), Math.min(k, 12));
        }
        for (int k = 11; k >= 0; k--) {
            x.back();
            due("ACTS", x.count(9), k);
        }
        x.back();
        due("no fewer", x.count(9), 0);
        for (int k = 1; k <= 31; k++) {
            x.feed(0, 0, 0, 0, 0);
            due("bytes", x.count(10), Math.min(20 * k, 600));
        }
        x.text(601);
        due("bytes stay", x.count(10), 600);
        x.text(600);
        due("bytes go", x.count(10), 0);
    }
}
