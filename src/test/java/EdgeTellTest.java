import java.util.Arrays;

/** Promises 1 to 10, sentence by sentence: what is told or taken BACK, as little, as much, as seldom as it may be. */
public final class EdgeTellTest {
    private static final int NONE = RangePlanner.NONE;
    private static final int BLANKS = 0x20202020;

    private final Check check = new Check();

    public static void main(String[] args) {
        EdgeTellTest all = new EdgeTellTest();
        all.looksAtANewObject();
        all.asksOfANewObject();
        all.theLastCall();
        all.feedTwenty();
        all.feedTheHighestFirst();
        all.feedMoreThan600();
        all.textOfSomeBytes();
        all.textEmptiesTheTape();
        all.textIsAllThereIs();
        all.textOfAllThereCanBe();
        all.cellAtItsEnds();
        all.cellIsSo();
        all.cellOfTheWindow();
        all.changeAtItsEnds();
        all.thirtyTwoChanges();
        all.askAtItsEnds();
        all.askTimes();
        all.twentyFourQuestions();
        all.dropToNone();
        all.weightAtItsEnds();
        all.setAtItsEnds();
        all.backOfEachAct();
        all.backIsNoAct();
        all.whatIsNoAct();
        all.theLastTwelve();
        all.theRingOfTwelve();
        all.backOfAChange();
        all.backOfAChangeThatCoversAnother();
        all.backOfACell();
        all.backAtTheFull();
        all.check.finish();
    }

    private void due(String call, long got, long want) {
        check.due(call, got, want);
    }

    private void dueRow(String call, int[] got, int... want) {
        check.dueRow(call, got, want);
    }

    private void looksAtANewObject() {
        check.about("1 \"16 CELLS, no CHANGES, no QUESTIONS; an empty TAPE\"");
        RangePlanner x = new RangePlanner();
        dueRow("count", Look.counts(x), 16, 0, 0, 1, 1, 4, 0, 0, 0, 0, 0);
        dueRow("window", Look.window(x), 0, -1, 0, 0, NONE, 0, 0, 0);
        due("the first CELL", x.at(0, 0), 0);
        due("the last CELL", x.at(15, 0), 0);
        due("no CELL 16", x.at(16, 0), NONE);
        due("no TIME 1", x.at(0, 1), NONE);
        due("no QUESTION", x.of(0, 0), NONE);
        due("no ANSWER", Look.answer(x, 0), Integer.MIN_VALUE);
        due("none to drop", x.drop(), NONE);
        due("nothing to take BACK", x.back() ? 1 : 0, 0);
        due("no byte", x.text(1), NONE);
        due("an empty TEXT", x.text(0), Check.fault(0, 1));
        for (int v = 0; v < 64; v++) {
            due("it holds nothing", x.holds(v), 0);
        }
    }

    private void asksOfANewObject() {
        check.about("1 \"no QUESTIONS\"");
        RangePlanner x = new RangePlanner();
        for (int order = 0; order < 3; order++) {
            due("an empty PLAN", x.planned(order, 1, NONE), 0);
            due("no first one", x.planned(order, 60, 0), NONE);
            for (int what = 0; what < 4; what++) {
                due("moves of none", x.moves(order, 60, what), 0);
            }
            due("the least b", x.best(order, 0), 1);
            due("its COST", x.best(order, 1), 0);
        }
        for (int k = 1; k <= 4; k++) {
            for (int what = 0; what <= k; what++) {
                due("split of none", x.split(k, what), 0);
            }
        }
        due("no MOVE", x.move(0, 0), NONE);
        due("none saves", x.saves(0), -100000);
        due("would, the first one", x.would(0, 0, 15, NONE), 16);
        due("an empty UNDOING", x.undone(1, NONE), 0);
        due("no first one", x.undone(1, 0), NONE);
        for (int what = 0; what < 3; what++) {
            due("adds of none", x.adds(60, what), 0);
        }
        due("walk", x.walk(1), 0);
        due("walk", x.walk(400), 0);
        due("home", x.home(), 0);
        due("touched", x.touched(15, 63), 0);
    }

    private void theLastCall() {
        check.about("\"An object is used for at most 512 calls\"");
        RangePlanner x = new RangePlanner();
        for (int call = 1; call < 512; call++) {
            due("call " + call, x.weight(call % 10), call == 1 ? 1 : (call - 1) % 10);
        }
        due("call 512", x.count(3), 1);
    }

    private void feedTwenty() {
        check.about("2 \"Twenty bytes come behind THE TAPE\"");
        RangePlanner x = new RangePlanner();
        due("the first", x.feed(BLANKS, BLANKS, BLANKS, BLANKS, BLANKS), 20);
        due("the second", x.feed(0x726f7720, 0x312c3220, BLANKS, BLANKS, BLANKS), 40);
        due("bytes", x.count(10), 40);
        due("behind those that were there", x.text(40), 1);
        due("CELLS", x.count(0), 2);
    }

    private void feedTheHighestFirst() {
        check.about("2 \"of each number the highest first\"");
        RangePlanner x = new RangePlanner();
        due("feed", x.feed(0x726f7720, 0x312c322c, 0x332c342c, 0x352c362c, 0x372c3539), 20);
        due("row 1,2,3,4,5,6,7,59", x.text(20), 1);
        for (int i = 0; i < 7; i++) {
            due("CELL " + i, x.at(i, 0), i + 1);
        }
        due("CELL 7", x.at(7, 0), 59);
        due("CELLS", x.count(0), 8);
        for (int i = 0; i < 20; i++) {
            int[] n = {BLANKS, BLANKS, BLANKS, BLANKS, BLANKS};
            n[i / 4] |= 0x80 << 8 * (3 - i % 4);
            RangePlanner y = new RangePlanner();
            y.feed(n[0], n[1], n[2], n[3], n[4]);
            due("a byte above 127 at " + i, y.text(20), Check.fault(i, 1));
        }
    }

    private void feedMoreThan600() {
        check.about("2 \"NONE, and none come, if it would have more than 600\"");
        RangePlanner x = new RangePlanner();
        for (int k = 1; k < 30; k++) {
            due("feed", x.feed(BLANKS, BLANKS, BLANKS, BLANKS, BLANKS), 20 * k);
        }
        due("600", x.feed(0x726f7720, 0x312c322c, 0x332c342c, 0x352c362c, 0x372c3539), 600);
        due("one more", x.feed(-1, -1, -1, -1, -1), NONE);
        due("once more", x.feed(-1, -1, -1, -1, -1), NONE);
        due("none came", x.count(10), 600);
        due("601 there are not", x.text(601), NONE);
        due("none came over those that were there", x.text(600), 1);
        due("the last byte", x.at(7, 0), 59);
        due("there is room again", x.feed(-1, -1, -1, -1, -1), 20);
    }

    private void textOfSomeBytes() {
        check.about("3 \"The first n bytes of THE TAPE .. are THE TEXT\"");
        int[] want = {Check.fault(0, 1), Check.fault(0, 1), Check.fault(0, 1), Check.fault(3, 1), Check.fault(4, 1),
            Check.fault(5, 5), Check.fault(6, 1), 1, 1, Check.fault(9, 1)};
        for (int n = 0; n < want.length; n++) {
            RangePlanner x = new RangePlanner();
            x.feed(0x726f7720, 0x312c3231, 0x2c332020, -1, -1);
            due("n " + n, x.text(n), want[n]);
        }
        RangePlanner two = new RangePlanner();
        two.feed(0x726f7720, 0x312c3231, 0, 0, 0);
        two.text(7);
        due("a WHOLE ends with them", two.at(1, 0), 2);
        two.feed(0x726f7720, 0x312c3231, 0, 0, 0);
        two.text(8);
        due("or goes on", two.at(1, 0), 21);
    }

    private void textEmptiesTheTape() {
        check.about("3 \"THE TAPE (it is empty then)\"");
        RangePlanner x = new RangePlanner();
        x.feed(0x726f7720, 0x312c3220, BLANKS, BLANKS, BLANKS);
        x.feed(0x726f7720, 0x332c3420, BLANKS, BLANKS, BLANKS);
        due("it tells", x.text(8), 1);
        due("bytes", x.count(10), 0);
        due("no byte", x.text(1), NONE);
        due("feed", x.feed(BLANKS, BLANKS, BLANKS, BLANKS, BLANKS), 20);
        due("nothing of the old ones", x.text(20), Check.fault(20, 1));
        due("a FAULT, bytes", x.count(10), 0);
        x.feed(0x726f7720, 0x312c3220, BLANKS, BLANKS, BLANKS);
        due("none of it", x.text(0), Check.fault(0, 1));
        due("none of it, bytes", x.count(10), 0);
        x.feed(0x726f7720, 0x312c3220, BLANKS, BLANKS, BLANKS);
        due("refused", x.text(21), NONE);
        due("refused", x.text(-1), NONE);
        due("THE TAPE stays", x.count(10), 20);
        due("with what is on it", x.text(20), 1);
    }

    private void textIsAllThereIs() {
        check.about("3 \"all is as it tells, the WINDOW, what is SET, WEIGHT as at first, nothing can be taken BACK\"");
        RangePlanner x = Look.full();
        x.weight(9);
        x.set(2, 60);
        x.text(0);
        due("60 CELLS", x.count(0), 60);
        due("row 7,8", Check.tell(x, "row 7,8"), 1);
        dueRow("count", Look.counts(x), 2, 0, 0, 1, 1, 4, 0, 0, 0, 0, 0);
        dueRow("window", Look.window(x), 0, -1, 0, 0, NONE, 0, 0, 0);
        due("no CELL 2", x.at(2, 0), NONE);
        due("no TIME 1", x.at(0, 1), NONE);
        due("no QUESTION", x.of(0, 0), NONE);
        due("nothing to take BACK", x.back() ? 1 : 0, 0);
        due("no old CHANGE", x.change(0, 9), 1);
        due("the other CELL", x.at(1, 1), 8);
        due("the first QUESTION", x.ask(0, 0, 1, NONE), 0);
        due("its ANSWER", x.answer(0), 17);
        due("walk", x.walk(400), 3);
        due("DONE", x.window(3), 1);
        due("QUESTIONS again", Check.tell(x, "row 7,8;set 0 9;ask sum 0 1"), 3);
        dueRow("none is DONE", Look.window(x), 0, -1, 0, 0, 0, 0, 0, 0);
        due("more CELLS again", Check.tell(x, "row 5" + ",6".repeat(59)), 1);
        due("the last one", x.at(59, 0), 6);
    }

    private void textOfAllThereCanBe() {
        check.about("3 \"how many LINES\"");
        RangePlanner x = new RangePlanner();
        due("the row alone", Check.tell(x, "row 0,0"), 1);
        String full = "row 0,0" + ";set 1 1".repeat(32) + ";ask sum 0 1".repeat(24);
        due("1 and 32 and 24", Check.tell(x, full), 57);
        dueRow("count", Look.counts(x), 2, 32, 24, 1, 1, 4, 1, 24, 0, 0, 0);
        due("behind all CHANGES", x.of(23, 3), 32);
        due("no room for a CHANGE", x.change(0, 0), NONE);
        due("no room for a QUESTION", x.ask(0, 0, 0, 0), NONE);
        due("nothing is an ACT", x.count(9), 0);
        due("60 CELLS of two digits", Check.tell(x, "row 63" + ",63".repeat(59)), 1);
        due("the last one", x.at(59, 0), 63);
    }

    private void cellAtItsEnds() {
        check.about("4 \"A CELL is v at TIME 0: what it was; NONE: others\"");
        RangePlanner x = new RangePlanner();
        due("the first CELL, the greatest number", x.cell(0, 63), 0);
        due("the last CELL, the greatest number", x.cell(15, 63), 0);
        due("the least number", x.cell(0, 0), 63);
        due("at(15, 0)", x.at(15, 0), 63);
        due("at(0, 0)", x.at(0, 0), 0);
        due("CELL -1", x.cell(-1, 1), NONE);
        due("CELL 16", x.cell(16, 1), NONE);
        due("number -1", x.cell(1, -1), NONE);
        due("number 64", x.cell(1, 64), NONE);
        RangePlanner two = Look.told("row 1,2");
        due("CELL 1 of two", two.cell(1, 5), 2);
        due("CELL 2 of two", two.cell(2, 5), NONE);
        RangePlanner sixty = Look.cells(60, 3);
        due("CELL 59 of 60", sixty.cell(59, 5), 3);
        due("CELL 60 of 60", sixty.cell(60, 5), NONE);
    }

    private void cellIsSo() {
        check.about("4 \"NONE: .. it is so\"");
        RangePlanner x = new RangePlanner();
        due("0 is 0", x.cell(3, 0), NONE);
        due("0 is 1", x.cell(3, 1), 0);
        due("1 is 1", x.cell(3, 1), NONE);
        x.change(3, 2);
        due("at TIME 0 it is 1", x.cell(3, 1), NONE);
        due("at TIME 1 alone it is 2", x.cell(3, 2), 1);
        due("ACTS", x.count(9), 3);
    }

    private void cellOfTheWindow() {
        check.about("4 \"NONE: .. the WINDOW has it (from LEFT to RIGHT)\"");
        RangePlanner x = new RangePlanner();
        due("a WINDOW from 0 to -1 has none", x.cell(0, 1), 0);
        x.ask(0, 2, 4, 0);
        x.walk(1);
        due("it has CELL 0", x.cell(0, 2), NONE);
        due("not CELL 1", x.cell(1, 2), 0);
        x.walk(400);
        due("ahead of LEFT", x.cell(1, 3), 2);
        due("LEFT", x.cell(2, 3), NONE);
        due("between", x.cell(3, 3), NONE);
        due("RIGHT", x.cell(4, 3), NONE);
        due("behind RIGHT", x.cell(5, 3), 0);
        x.home();
        due("at home it has none", x.cell(0, 3), 1);
        due("at home it has none", x.cell(4, 3), 0);
        RangePlanner y = new RangePlanner();
        y.ask(1, 15, 15, 0);
        y.walk(400);
        due("one CELL, the last", y.cell(15, 1), NONE);
        due("the one ahead of it", y.cell(14, 1), 0);
    }

    private void changeAtItsEnds() {
        check.about("5 \"A CHANGE: how many there are; NONE: others\"");
        RangePlanner x = new RangePlanner();
        due("CELL -1", x.change(-1, 1), NONE);
        due("CELL 16", x.change(16, 1), NONE);
        due("number -1", x.change(0, -1), NONE);
        due("number 64", x.change(0, 64), NONE);
        due("none came", x.count(1), 0);
        due("the first CELL, the greatest number", x.change(0, 63), 1);
        due("the last CELL, the least number", x.change(15, 0), 2);
        due("to what it is", x.change(15, 0), 3);
        due("of a CELL again", x.change(0, 62), 4);
        due("TIME 0", x.at(0, 0), 0);
        due("TIME 1", x.at(0, 1), 63);
        due("TIME 3", x.at(0, 3), 63);
        due("TIME 4", x.at(0, 4), 62);
        x.ask(0, 0, 0, 0);
        x.walk(400);
        due("of a CELL that the WINDOW has", x.change(0, 7), 5);
        due("NOW is ahead of it", x.holds(0), 1);
    }

    private void thirtyTwoChanges() {
        check.about("5 \"NONE: .. 32 there are\"");
        RangePlanner x = new RangePlanner();
        for (int k = 1; k <= 32; k++) {
            due("change", x.change(0, k), k);
        }
        due("the 33rd", x.change(0, 33), NONE);
        due("CHANGES", x.count(1), 32);
        due("behind the last", x.at(0, 32), 32);
        due("no TIME 33", x.at(0, 33), NONE);
        x.back();
        due("there is room again", x.change(1, 40), 32);
        due("the one taken BACK is not there", x.at(0, 32), 31);
        due("the new one is", x.at(1, 32), 40);
        due("one more", x.change(0, 33), NONE);
    }

    private void askAtItsEnds() {
        check.about("6 \"A QUESTION .. its number; NONE: others (first above last ..)\"");
        RangePlanner x = new RangePlanner();
        due("KIND -1", x.ask(-1, 0, 1, 0), NONE);
        due("KIND 8", x.ask(8, 0, 1, 0), NONE);
        due("first -1", x.ask(0, -1, 1, 0), NONE);
        due("last 16", x.ask(0, 0, 16, 0), NONE);
        due("both 16", x.ask(0, 16, 16, 0), NONE);
        due("first 1 above last", x.ask(0, 8, 7, 0), NONE);
        due("none came", x.count(2), 0);
        due("KIND 0, the first CELL alone", x.ask(0, 0, 0, 0), 0);
        due("KIND 7, the last CELL alone", x.ask(7, 15, 15, 0), 1);
        due("all CELLS", x.ask(3, 0, 15, 0), 2);
        due("the same once more", x.ask(3, 0, 15, 0), 3);
        RangePlanner two = Look.told("row 1,2");
        due("both of two", two.ask(0, 0, 1, 0), 0);
        due("a third of two", two.ask(0, 0, 2, 0), NONE);
        RangePlanner sixty = Look.cells(60, 3);
        due("60 of 60", sixty.ask(0, 0, 59, 0), 0);
        due("61 of 60", sixty.ask(0, 0, 60, 0), NONE);
    }

    private void askTimes() {
        check.about("6 \"(TIME NONE: behind all CHANGES) .. NONE: .. a TIME of more CHANGES than there are\"");
        RangePlanner x = new RangePlanner();
        due("TIME 1 of none", x.ask(0, 0, 1, 1), NONE);
        due("TIME -2", x.ask(0, 0, 1, -2), NONE);
        due("TIME 0", x.ask(0, 0, 1, 0), 0);
        due("TIME NONE", x.ask(0, 0, 1, NONE), 1);
        due("it is 0", x.of(1, 3), 0);
        x.change(0, 9);
        due("TIME 1", x.ask(0, 0, 1, 1), 2);
        due("TIME NONE", x.ask(0, 0, 1, NONE), 3);
        due("it is 1", x.of(3, 3), 1);
        due("those asked ahead of it stay", x.of(1, 3), 0);
        due("TIME 2 of 1", x.ask(0, 0, 1, 2), NONE);
        RangePlanner full = Look.told("row 0,0" + ";set 0 1".repeat(32));
        due("TIME 32", full.ask(0, 0, 1, 32), 0);
        due("TIME 33", full.ask(0, 0, 1, 33), NONE);
        due("TIME NONE", full.ask(0, 0, 1, NONE), 1);
        due("it is 32", full.of(1, 3), 32);
    }

    private void twentyFourQuestions() {
        check.about("6 \"NONE: .. 24 there are\"");
        RangePlanner x = new RangePlanner();
        for (int q = 0; q < 24; q++) {
            due("ask", x.ask(q % 8, 0, q % 16, 0), q);
        }
        due("the 25th", x.ask(0, 0, 0, 0), NONE);
        due("the 25th, of THE UNDOING", x.ask(2, 0, 0, 0), NONE);
        due("QUESTIONS", x.count(2), 24);
        due("no number 24", x.of(24, 0), NONE);
        due("drop", x.drop(), 23);
        due("there is room again", x.ask(4, 1, 2, 0), 23);
        due("it is the new one", x.of(23, 0), 4);
        due("one more", x.ask(0, 0, 0, 0), NONE);
    }

    private void dropToNone() {
        check.about("7 \"The last QUESTION goes: how many are left; NONE: there is none\"");
        RangePlanner x = new RangePlanner();
        due("none", x.drop(), NONE);
        due("no ACT", x.count(9), 0);
        for (int q = 0; q < 24; q++) {
            x.ask(q % 8, q % 16, 15, 0);
        }
        for (int left = 23; left >= 0; left--) {
            due("drop", x.drop(), left);
            due("it is gone", x.of(left, 0), NONE);
            due("the one ahead of it is there", x.of(left - 1, 0), left == 0 ? NONE : (left - 1) % 8);
        }
        due("none", x.drop(), NONE);
        due("none is asked", x.count(2), 0);
        due("the next one is the first", x.ask(0, 0, 0, 0), 0);
    }

    private void weightAtItsEnds() {
        check.about("8 \"WEIGHT: what it was; NONE: others\"");
        RangePlanner x = Look.told("row 0,0;set 0 1;set 0 2;ask sum 0 1");
        due("1 at first", x.moves(1, 4, 2), 4);
        due("weight(-1)", x.weight(-1), NONE);
        due("weight(10)", x.weight(10), NONE);
        due("it stays", x.count(3), 1);
        due("weight(9)", x.weight(9), 1);
        due("COST", x.moves(1, 4, 2), 20);
        due("weight(0)", x.weight(0), 9);
        due("COST", x.moves(1, 4, 2), 2);
        due("weight(0) of 0", x.weight(0), 0);
        due("TURNS are MOVES all the same", x.moves(1, 4, 3), 4);
        due("TURNS are TURNS all the same", x.moves(1, 4, 1), 2);
    }

    private void setAtItsEnds() {
        check.about("9 \"100 times the ORDER that it was and the BLOCK; NONE: others\"");
        RangePlanner x = Look.told("row 0,0");
        due("set(-1, 1)", x.set(-1, 1), NONE);
        due("set(3, 1)", x.set(3, 1), NONE);
        due("set(0, 0)", x.set(0, 0), NONE);
        due("set(0, 61)", x.set(0, 61), NONE);
        due("ORDER stays", x.count(4), 1);
        due("BLOCK stays", x.count(5), 4);
        due("the least ones", x.set(0, 1), 104);
        due("the greatest ones, more than CELLS", x.set(2, 60), 1);
        due("as it is", x.set(2, 60), 260);
        due("the least BLOCK", x.set(1, 1), 260);
        due("the greatest BLOCK", x.set(0, 60), 101);
        due("set", x.set(1, 4), 60);
    }

    private void backOfEachAct() {
        check.about("10 \"change(), ask(), drop(), weight(), set(), cell(), if not refused\"");
        RangePlanner x = Look.told("row 1,2;ask which 0 1");
        int[] before = toldAndSet(x);
        due("change", x.change(1, 63), 1);
        takenBack("change", x, before);
        due("ask", x.ask(7, 0, 1, 0), 1);
        takenBack("ask", x, before);
        due("drop", x.drop(), 0);
        takenBack("drop", x, before);
        due("weight", x.weight(0), 1);
        takenBack("weight", x, before);
        due("weight as it is", x.weight(1), 1);
        takenBack("weight as it is", x, before);
        due("set", x.set(2, 60), 104);
        takenBack("set", x, before);
        due("set as it is", x.set(1, 4), 104);
        takenBack("set as it is", x, before);
        due("cell", x.cell(0, 63), 1);
        takenBack("cell", x, before);
    }

    private void takenBack(String act, RangePlanner x, int[] before) {
        due(act + ", ACTS", x.count(9), 1);
        check.due(act + ", back()", x.back(), true);
        dueRow(act + ", all", toldAndSet(x), before);
        check.due(act + ", no more", x.back(), false);
    }

    private static int[] toldAndSet(RangePlanner x) {
        int[] row = Arrays.copyOf(Look.counts(x), 15);
        row[11] = x.at(0, 0);
        row[12] = x.at(1, 0);
        row[13] = x.of(0, 0);
        row[14] = Look.answer(x, 0);
        return row;
    }

    private void backIsNoAct() {
        check.about("10 \"BACK: true\"");
        RangePlanner x = new RangePlanner();
        x.weight(2);
        x.weight(3);
        x.weight(4);
        check.due("back", x.back(), true);
        due("WEIGHT", x.count(3), 3);
        due("ACTS", x.count(9), 2);
        check.due("not done again, but the one ahead", x.back(), true);
        due("WEIGHT", x.count(3), 2);
        x.weight(7);
        due("ACTS", x.count(9), 2);
        check.due("the new one", x.back(), true);
        due("WEIGHT", x.count(3), 2);
        check.due("the first", x.back(), true);
        due("WEIGHT", x.count(3), 1);
        check.due("no more", x.back(), false);
    }

    private void whatIsNoAct() {
        check.about("10 \"false: nothing can be\"");
        RangePlanner x = Look.told("row 1,2;set 0 3;ask sum 0 1");
        x.feed(0, 0, 0, 0, 0);
        x.walk(2);
        x.home();
        x.would(0, 0, 1, 0);
        x.touched(0, 9);
        x.text(20);
        x.text(1);
        x.cell(0, 1);
        x.change(2, 0);
        x.ask(0, 1, 0, 0);
        x.weight(10);
        x.set(0, 0);
        due("ACTS", x.count(9), 0);
        check.due("nothing", x.back(), false);
        due("a text leaves none", Check.tell(x, "row 1,2"), 1);
        x.drop();
        check.due("a drop of none is refused", x.back(), false);
    }

    private void theLastTwelve() {
        check.about("\"ACTS that can be taken BACK, the last 12\"");
        for (int acts = 0; acts <= 26; acts++) {
            RangePlanner x = new RangePlanner();
            for (int k = 1; k <= acts; k++) {
                x.cell(0, k);
            }
            int kept = Math.min(acts, 12);
            due("ACTS of " + acts, x.count(9), kept);
            for (int k = 1; k <= kept; k++) {
                check.due("back", x.back(), true);
                due("at", x.at(0, 0), acts - k);
                due("ACTS left", x.count(9), kept - k);
            }
            check.due("one more", x.back(), false);
            due("at", x.at(0, 0), acts - kept);
        }
    }

    private void theRingOfTwelve() {
        check.about("\"the last 12\", some taken BACK and others done again");
        for (int back = 1; back <= 12; back++) {
            RangePlanner x = new RangePlanner();
            int made = 0;
            for (int round = 0; round < 4; round++) {
                for (int k = 0; k < 13; k++) {
                    made++;
                    x.cell(0, made % 64);
                }
                for (int k = 0; k < back; k++) {
                    made--;
                    check.due("back", x.back(), true);
                    due("at", x.at(0, 0), made % 64);
                }
                due("ACTS", x.count(9), 12 - back);
            }
        }
        RangePlanner y = new RangePlanner();
        for (int k = 1; k <= 7; k++) {
            y.cell(0, k);
        }
        Check.tell(y, "row 1,2");
        for (int k = 3; k <= 15; k++) {
            y.cell(0, k);
        }
        due("12 behind a text", y.count(9), 12);
        for (int k = 14; k >= 3; k--) {
            y.back();
            due("at", y.at(0, 0), k);
        }
        check.due("not the 13th", y.back(), false);
    }

    private void backOfAChange() {
        check.about("\"BACK of a CHANGE: if the WINDOW's NOW is behind it, it turns to the TIME ahead of it first\"");
        RangePlanner x = Look.told("row 1,2,3;set 0 9;ask sum 0 1 at 0;ask sum 0 1 at 1");
        x.change(1, 8);
        x.ask(0, 0, 1, 2);
        x.set(0, 60);
        due("NOW 0", x.walk(2), 2);
        dueRow("window", Look.window(x), 0, 1, 0, 1, 1, 2, 0, 2);
        due("NOW 1", x.walk(1), 1);
        due("NOW 2", x.walk(1), 1);
        dueRow("window", Look.window(x), 0, 1, 2, 3, NONE, 2, 2, 2);
        due("what it holds", x.tells(0), 17);
        x.back();
        x.back();
        dueRow("SET, QUESTION taken BACK", Look.window(x), 0, 1, 2, 2, NONE, 2, 2, 2);
        x.back();
        dueRow("NOW turns, a MOVE", Look.window(x), 0, 1, 1, 2, NONE, 2, 3, 2);
        due("what it holds", x.tells(0), 11);
        x.change(1, 8);
        x.back();
        dueRow("NOW is the TIME ahead of it", Look.window(x), 0, 1, 1, 2, NONE, 2, 3, 2);
        x.home();
        x.change(1, 8);
        x.back();
        dueRow("NOW is 0", Look.window(x), 0, -1, 0, 0, 0, 4, 4, 0);
    }

    private void backOfAChangeThatCoversAnother() {
        check.about("\"BACK of a CHANGE\" of a CELL that was changed ahead of it, of one out of the WINDOW");
        RangePlanner x = Look.told("row 1,2,3;set 0 9");
        x.change(0, 8);
        x.change(2, 7);
        x.ask(0, 0, 1, 3);
        x.walk(400);
        dueRow("window", Look.window(x), 0, 1, 3, 1, NONE, 2, 3, 2);
        x.back();
        x.back();
        dueRow("out of the WINDOW: a MOVE too", Look.window(x), 0, 1, 2, 0, NONE, 2, 4, 2);
        due("what it holds", x.tells(0), 10);
        x.back();
        dueRow("in the WINDOW", Look.window(x), 0, 1, 1, 0, NONE, 2, 5, 2);
        due("the number of the CHANGE ahead", x.tells(0), 11);
        check.due("no more", x.back(), false);
        due("one CHANGE is left", x.count(1), 1);
        due("home", x.home(), 3);
    }

    private void backOfACell() {
        check.about("\"BACK .. of a CELL: if the WINDOW has it, it holds what is there then\"");
        RangePlanner x = Look.told("row 1,2,3;set 1 9;ask sum 0 1");
        x.cell(0, 60);
        x.cell(1, 61);
        x.cell(2, 62);
        x.set(1, 5);
        x.back();
        due("to NOW 1", x.walk(400), 3);
        due("holds", x.tells(0), 69);
        x.back();
        due("out of the WINDOW", x.tells(0), 69);
        due("at(2, 0)", x.at(2, 0), 3);
        x.back();
        due("a CHANGE covers it at NOW", x.tells(0), 69);
        due("at(1, 0)", x.at(1, 0), 2);
        x.back();
        due("it has it", x.tells(0), 10);
        due("holds(60)", x.holds(60), 0);
        due("holds(1)", x.holds(1), 1);
        dueRow("no MOVE", Look.window(x), 0, 1, 1, 1, NONE, 2, 1, 2);
        x.home();
        due("it holds nothing", x.tells(0), 0);
    }

    private void backAtTheFull() {
        check.about("10 back, at 32 CHANGES and 24 QUESTIONS");
        RangePlanner x = Look.full();
        int[] before = Look.counts(x);
        due("drop", x.drop(), 23);
        due("ask", x.ask(0, 0, 0, 0), 23);
        x.back();
        x.back();
        due("24 again", x.count(2), 24);
        due("the old one: KIND", x.of(23, 0), 7);
        due("first", x.of(23, 1), 59);
        due("last", x.of(23, 2), 59);
        due("TIME", x.of(23, 3), 9);
        before[9] = 10;
        dueRow("count", Look.counts(x), before);
        for (int k = 0; k < 10; k++) {
            check.due("the ten asks ahead", x.back(), true);
        }
        check.due("no more", x.back(), false);
        due("QUESTIONS", x.count(2), 14);
        due("CHANGES", x.count(1), 32);
    }
}
