/** THE TEXT of promise 3, sentence by sentence: every byte, every WHOLE, every part of a text, every LINE too many. */
public final class EdgeTextTest {
    private static final int FORM = 1;
    private static final int BOUNDS = 2;
    private static final int SECOND = 3;
    private static final int MANY = 4;
    private static final int LACKS = 5;

    private final Check check = new Check();

    public static void main(String[] args) {
        EdgeTextTest all = new EdgeTextTest();
        all.bytesBehindAWord();
        all.bytesBehindAWhole();
        all.bytesAtFirst();
        all.bytesAlone();
        all.blanksBetweenTokens();
        all.wordsTooLong();
        all.wordsTooShort();
        all.otherWords();
        all.wholesTooLong();
        all.singleSigns();
        all.otherSortsOfTokens();
        all.theEndOfEachPart();
        all.theEndBehindBlanks();
        all.cellsOutOfBounds();
        all.changesOutOfBounds();
        all.endsOutOfBounds();
        all.timesOutOfBounds();
        all.timesWithoutAt();
        all.secondRows();
        all.linesTooMany();
        all.cellsTooMany();
        all.linesAheadOfTheRow();
        all.oneCellAlone();
        all.ofOnePlaceTheLeast();
        all.theFirstFromTheLeft();
        all.textsOf600Bytes();
        all.check.finish();
    }

    private void due(String text, int want) {
        check.due("\"" + text + "\"", Check.tell(new RangePlanner(), text), want);
    }

    private void fault(String text, int place, int kind) {
        due(text, Check.fault(place, kind));
    }

    private static boolean isBlank(char c) {
        return c == 32 || c == 10;
    }

    private static boolean isDigit(char c) {
        return c >= 48 && c <= 57;
    }

    private static boolean isLetter(char c) {
        return c >= 97 && c <= 122;
    }

    private void bytesBehindAWord() {
        check.about("\"blanks, 32, 10, part TOKENS and mean nothing else; .. small letters that stand together\"");
        for (char c = 0; c < 256; c++) {
            String text = "row" + c + "1,2";
            if (isBlank(c) || isDigit(c) && c < '7') {
                due(text, 1);
            } else if (isDigit(c)) {
                fault(text, 3, BOUNDS);
            } else {
                fault(text, isLetter(c) ? 0 : 3, FORM);
            }
        }
    }

    private void bytesBehindAWhole() {
        check.about("\"1 FORM: the first byte that begins no TOKEN\"");
        for (char c = 0; c < 256; c++) {
            String text = "row 1,2" + c;
            if (isBlank(c) || isDigit(c)) {
                due(text, 1);
            } else {
                fault(text, c == ';' || c == ',' ? 8 : 7, FORM);
            }
        }
    }

    private void bytesAtFirst() {
        check.about("\"1 FORM: the first byte that begins no TOKEN, or TOKEN with which no such text goes on\"");
        for (char c = 0; c < 256; c++) {
            if (isBlank(c)) {
                due(c + "row 1,2", 1);
            } else {
                fault(c + "row 1,2", 0, FORM);
                fault("row 1,2; " + c + "set 0 0", 9, FORM);
            }
        }
    }

    private void bytesAlone() {
        check.about("\"(the end: its place)\"");
        for (char c = 0; c < 256; c++) {
            fault("" + c, isBlank(c) ? 1 : 0, FORM);
        }
        fault("", 0, FORM);
    }

    private void blanksBetweenTokens() {
        check.about("\"blanks .. part TOKENS and mean nothing else\"");
        due("row1,2;set0 3;ask sum0 1at1", 3);
        due("row\n1\n,\n2\n;\nset\n0\n3\n;\nask\nsum\n0\n1\nat\n1\n", 3);
        due("  row  1  ,  2  ;  set  0  3  ;  ask  sum  0  1  at  1  ", 3);
        fault("row 1, 2;set 01", 15, FORM);
        fault("r ow 1,2", 0, FORM);
        fault("row 1,2;ask s um 0 1", 12, FORM);
        fault("row 1 0,2", 6, FORM);
        fault("rowset", 0, FORM);
        fault("row 1,2;asksum 0 1", 8, FORM);
        fault("row 1,2;ask sum 0 1 at 0 0", 25, FORM);
    }

    private void wordsTooLong() {
        check.about("\"WORDS of 1 to 7 small letters that stand together\"");
        due("row 1,2;ask missing 0 1", 2);
        for (String kind : Look.KINDS) {
            due("row 1,2;ask " + kind + " 0 1", 2);
            due("row 1,2;ask " + kind + "0 1", 2);
            fault("row 1,2;ask " + kind + "a 0 1", 12, FORM);
            fault("row 1,2;ask a" + kind + " 0 1", 12, FORM);
        }
        fault("row 1,2;ask missingmissing 0 1", 12, FORM);
        fault("row 1,2;ask " + "a".repeat(7) + " 0 1", 12, FORM);
        fault("row 1,2;ask " + "a".repeat(8) + " 0 1", 12, FORM);
        fault("rowaaaa 1,2", 0, FORM);
        fault("rowaaaaa 1,2", 0, FORM);
        fault("row 1,2;ask sum 0 1 att 0", 20, FORM);
        fault("row 1,2;sett 0 1", 8, FORM);
        fault("row 1,2;asks sum 0 1", 8, FORM);
    }

    private void wordsTooShort() {
        check.about("\"TOKEN with which no such text goes on\"");
        for (String kind : Look.KINDS) {
            for (int length = 1; length < kind.length(); length++) {
                fault("row 1,2;ask " + kind.substring(0, length) + " 0 1", 12, FORM);
            }
        }
        for (String word : new String[] {"r", "ro", "s", "se", "a", "as", "at", "sum"}) {
            fault(word + " 1,2", 0, FORM);
            fault("row 1,2;" + word + " 0 1", 8, FORM);
        }
        fault("row 1,2;ask sum 0 1 a 0", 20, FORM);
        fault("row 1,2;ask row 0 1", 12, FORM);
        fault("row 1,2;ask set 0 1", 12, FORM);
        fault("row 1,2;ask ask 0 1", 12, FORM);
    }

    private void otherWords() {
        check.about("\"TOKEN with which no such text goes on\", a letter of a WORD is another");
        String text = "row 1,2;set 0 3;ask sum 0 1 at 1";
        int word = 0;
        for (int i = 0; i < text.length(); i++) {
            if (isLetter(text.charAt(i))) {
                word = i > 0 && isLetter(text.charAt(i - 1)) ? word : i;
                fault(text.substring(0, i) + 'x' + text.substring(i + 1), word, FORM);
            }
        }
        for (String kind : Look.KINDS) {
            for (int i = 0; i < kind.length(); i++) {
                fault("row 1,2;ask " + kind.substring(0, i) + 'x' + kind.substring(i + 1) + " 0 1", 12, FORM);
            }
        }
    }

    private void wholesTooLong() {
        check.about("\"WHOLES of 1 to 2 digits that do\"");
        due("row 0,00", 1);
        due("row 9,09;set 01 09;ask sum 00 01 at 01", 3);
        fault("row 000,0", 4, FORM);
        fault("row 0,009", 6, FORM);
        fault("row 0,100", 6, FORM);
        fault("row 0,0;set 000 0", 12, FORM);
        fault("row 0,0;set 0 010", 14, FORM);
        fault("row 0,0;ask sum 000 0", 16, FORM);
        fault("row 0,0;ask sum 0 001", 18, FORM);
        fault("row 0,0;ask sum 0 1 at 000", 23, FORM);
        fault("row 0," + "9".repeat(30), 6, FORM);
        fault("row 0,4294967297", 6, FORM);
    }

    private void singleSigns() {
        check.about("\"single ones of ; ,\"");
        fault("row 1,,2", 6, FORM);
        fault("row ,1,2", 4, FORM);
        fault("row 1,2,", 8, FORM);
        fault("row 1,2;;set 0 1", 8, FORM);
        fault(";row 1,2", 0, FORM);
        fault("row 1,2;", 8, FORM);
        fault("row 1;,2", 5, LACKS);
        fault("row 1,;2", 6, FORM);
        fault("row 1,2;set 0,1", 13, FORM);
        fault("row 1,2;set 0;1", 13, FORM);
        fault("row 1,2;set 0 1,2", 15, FORM);
        fault("row 1,2;ask,sum 0 1", 11, FORM);
        fault("row 1,2;ask sum;0 1", 15, FORM);
        fault("row 1,2;ask sum 0,1", 17, FORM);
        fault("row 1,2;ask sum 0 1,at 0", 19, FORM);
        fault("row 1,2;ask sum 0 1;at 0", 20, FORM);
    }

    private void otherSortsOfTokens() {
        check.about("\"the first byte that begins no TOKEN, or TOKEN with which no such text goes on\", at each place");
        String[] tokens = {"row", "1", ",", "2", ";", "set", "0", "3", ";", "ask", "sum", "0", "1", "at", "1"};
        String[] others = {"?", "A", "\u0000", "\u00ff", "\t", "abcdefgh", "000", "sum", "row", ";", ",", "0"};
        for (int at = 0; at < tokens.length; at++) {
            for (String other : others) {
                StringBuilder text = new StringBuilder();
                int place = 0;
                for (int k = 0; k < tokens.length; k++) {
                    place = k == at ? text.length() : place;
                    text.append(k == at ? other : tokens[k]).append(' ');
                }
                if (!isOfOneSort(tokens[at], other)) {
                    fault(text.toString(), place, FORM);
                }
            }
        }
    }

    /** Whether the other one may stand there too, or is a FAULT of another sort. */
    private static boolean isOfOneSort(String token, String other) {
        boolean wholes = isDigit(token.charAt(0)) && other.equals("0");
        boolean lines = (token.equals("set") || token.equals("ask")) && other.equals("row");
        boolean signs = (token + other).equals(",;") || (token + other).equals(";,");
        boolean without = token.equals("at") && other.equals(";");
        return wholes || lines || signs || without || token.equals(other);
    }

    private void theEndOfEachPart() {
        check.about("\"(the end: its place)\", of each part of a text");
        String text = "row 1,2;set 0 3;ask sum 0 1 at 1";
        int[] places = {0, 0, 0, 3, 4, 5, 6, -1, 8, 8, 8, 11, 12, 13, 14, -2, 16, 16, 16, 19, 20, 20, 20, 23, 24, 25, 26,
            -3, -3, 28, 30, 31, -3};
        for (int n = 0; n <= text.length(); n++) {
            int place = places[n];
            due(text.substring(0, n), place < 0 ? -place : Check.fault(place, n == 5 ? LACKS : FORM));
        }
    }

    private void theEndBehindBlanks() {
        check.about("\"(the end: its place)\", behind blanks");
        for (int blanks = 1; blanks <= 3; blanks++) {
            String some = " \n ".substring(0, blanks);
            fault(some, blanks, FORM);
            fault("row" + some, 3 + blanks, FORM);
            fault("row 1" + some, 5 + blanks, LACKS);
            fault("row 1" + some + ";", 5 + blanks, LACKS);
            fault("row 1,2;" + some, 8 + blanks, FORM);
            fault("row 1,2;ask sum 0 1 at" + some, 22 + blanks, FORM);
        }
    }

    private void cellsOutOfBounds() {
        check.about("\"CELLS, 2 to 60, each 0 to 63 .. 2 a WHOLE out of bounds .. at it\"");
        for (int v = 0; v < 100; v++) {
            wholeWithin("row ", v, ",0", 63, 1);
            wholeWithin("row 0,", v, "", 63, 1);
        }
    }

    private void wholeWithin(String ahead, int whole, String behind, int most, int lines) {
        String text = ahead + whole + behind;
        if (whole <= most) {
            due(text, lines);
        } else {
            fault(text, ahead.length(), BOUNDS);
        }
    }

    private void changesOutOfBounds() {
        check.about("\"set WHOLE WHOLE (a CHANGE of a CELL to a number)\"");
        String sixty = "row 0" + ",0".repeat(59);
        for (int whole = 0; whole < 100; whole++) {
            wholeWithin("row 0,0;set ", whole, " 0", 1, 2);
            wholeWithin(sixty + ";set ", whole, " 0", 59, 2);
            wholeWithin("row 0,0;set 1 ", whole, "", 63, 2);
        }
        fault("row 0,0;set 2 64", 12, BOUNDS);
        fault("row 0,0;set 2", 12, BOUNDS);
        fault("row 0,0;set 2 x", 12, BOUNDS);
    }

    private void endsOutOfBounds() {
        check.about("\"2 a WHOLE out of bounds (a last CELL ahead of the first, too); at it\"");
        String sixty = "row 0" + ",0".repeat(59);
        for (int whole = 0; whole < 100; whole++) {
            wholeWithin("row 0,0;ask sum ", whole, " 1", 1, 2);
            wholeWithin(sixty + ";ask sum ", whole, " 59", 59, 2);
            wholeWithin(sixty + ";ask sum 0 ", whole, "", 59, 2);
            String last = sixty + ";ask sum 30 " + whole;
            due(last, whole >= 30 && whole < 60 ? 2 : Check.fault(sixty.length() + 12, BOUNDS));
        }
        due("row 0,0;ask sum 1 1", 2);
        fault("row 0,0;ask sum 1 0", 18, BOUNDS);
        fault("row 0,0;ask sum 1 2", 18, BOUNDS);
        fault("row 0,0;ask sum 2 0", 16, BOUNDS);
    }

    private void timesOutOfBounds() {
        check.about("\"at a TIME, no more than there are CHANGES so far\"");
        String full = "row 0,0" + ";set 0 1".repeat(32) + ";ask sum 0 1 at ";
        for (int whole = 0; whole < 100; whole++) {
            wholeWithin("row 0,0;ask sum 0 1 at ", whole, "", 0, 2);
            wholeWithin("row 0,0;ask sum 0 1 at ", whole, ";set 0 1", 0, 3);
            wholeWithin("row 0,0;set 0 1;ask sum 0 1 at ", whole, ";set 0 1", 1, 4);
            wholeWithin(full, whole, "", 32, 34);
        }
    }

    private void timesWithoutAt() {
        check.about("\"without it behind these\"");
        RangePlanner x = Look.told("row 0,0;ask sum 0 1;set 0 1;ask sum 0 1;set 0 2;set 0 3;ask sum 0 1;ask sum 0 1 at 0");
        check.due("behind none", x.of(0, 3), 0);
        check.due("behind one", x.of(1, 3), 1);
        check.due("behind three", x.of(2, 3), 3);
        check.due("at 0", x.of(3, 3), 0);
        check.due("CHANGES", x.count(1), 3);
    }

    private void secondRows() {
        check.about("\"3 a second row; at that WORD\"");
        fault("row 1,2;row", 8, SECOND);
        fault("row 1,2;row 3,4", 8, SECOND);
        fault("row 1,2; row 3,4", 9, SECOND);
        fault("row 1,2;row 64", 8, SECOND);
        fault("row 1,2;row;", 8, SECOND);
        fault("row 1,2;set 0 1;row 3,4", 16, SECOND);
        fault("row 1,2;ask sum 0 1;row 3,4", 20, SECOND);
        fault("row 1,2;ask sum 0 1 at 0;row 3,4", 25, SECOND);
        fault("row 1,2 row 3,4", 8, FORM);
        fault("row row 1,2", 4, FORM);
        fault("row 1,row 2", 6, FORM);
    }

    private void linesTooMany() {
        check.about("\"4 MANY: a LINE more of its sort than there is room for, at its first WORD\"");
        String changes = "row 1,2" + ";set 0 1".repeat(32);
        String questions = "row 1,2" + ";ask sum 0 1".repeat(24);
        String both = changes + ";ask sum 0 1".repeat(24);
        due(changes, 33);
        due(questions, 25);
        due(both, 57);
        fault(changes + ";set 0 1", 264, MANY);
        fault(changes + "; set", 265, MANY);
        fault(changes + ";set 9 99 ?", 264, MANY);
        fault(questions + ";ask sum 0 1", 296, MANY);
        fault(questions + ";\nask", 297, MANY);
        fault(questions + ";ask ask", 296, MANY);
        fault(both + ";set 0 1", 552, MANY);
        fault(both + ";ask sum 0 1", 552, MANY);
        fault(both + ";row 1,2", 552, SECOND);
        fault(both + ";at 1", 552, FORM);
        fault(both + ";", 552, FORM);
        due("row 1,2" + ";set 0 1".repeat(31) + ";ask sum 0 1;set 0 1", 34);
        due("row 1,2" + ";ask sum 0 1".repeat(23) + ";set 0 1;ask sum 0 1", 26);
    }

    private void cellsTooMany() {
        check.about("\"4 MANY: .. a CELL more, at that WHOLE\"");
        String sixty = "row 0" + ",1".repeat(59);
        due(sixty, 1);
        due(sixty + ";set 59 0", 2);
        fault(sixty + ",1", 124, MANY);
        fault(sixty + ", 1", 125, MANY);
        fault(sixty + ",1,1", 124, MANY);
        fault(sixty + ",1;row", 124, MANY);
        fault(sixty + ",", 124, FORM);
        fault(sixty + ",a", 124, FORM);
        fault(sixty + ",100", 124, FORM);
        fault("row 1" + ",1".repeat(150), 124, MANY);
    }

    private void linesAheadOfTheRow() {
        check.about("\"5 LACKS: any LINE ahead of the row; at its WORD\"");
        fault("set 0 1", 0, LACKS);
        fault("ask sum 0 1", 0, LACKS);
        fault("set 0 1;row 1,2", 0, LACKS);
        fault("ask sum 0 1 at 0;row 1,2", 0, LACKS);
        fault("\n set", 2, LACKS);
        fault("ask", 0, LACKS);
        fault("set;", 0, LACKS);
        fault("ask ?", 0, LACKS);
        fault("at 0", 0, FORM);
    }

    private void oneCellAlone() {
        check.about("\"5 LACKS: .. one CELL alone; at the ; or the end behind it\"");
        fault("row 0", 5, LACKS);
        fault("row 63", 6, LACKS);
        fault("row 63 ", 7, LACKS);
        fault("row 0;", 5, LACKS);
        fault("row 0 ;", 6, LACKS);
        fault("row 0;row 1,2", 5, LACKS);
        fault("row 0;set 0 1", 5, LACKS);
        fault("row 0 set 0 1", 6, FORM);
        fault("row 0 1", 6, FORM);
        fault("row 0 ?", 6, FORM);
        fault("row 64", 4, BOUNDS);
        fault("row", 3, FORM);
        due("row 0,0", 1);
    }

    private void ofOnePlaceTheLeast() {
        check.about("\"of one place the least number\"");
        String sixty = "row 0" + ",1".repeat(59);
        fault(sixty + ",63", 124, MANY);
        fault(sixty + ",64", 124, BOUNDS);
        fault(sixty + ",99;row", 124, BOUNDS);
        fault("sets 0 1", 0, FORM);
        fault("row 0,0" + ";set 0 1".repeat(32) + ";sets 0 1", 264, FORM);
    }

    private void theFirstFromTheLeft() {
        check.about("\"FAULTS, the first that is met from the left\"");
        fault("row 64,65;row ?", 4, BOUNDS);
        fault("row 1;row 64", 5, LACKS);
        fault("row 1,2;set 0 64;row", 14, BOUNDS);
        fault("row 1,2;row 64 ?", 8, SECOND);
        fault("row 1,2;ask sum 0 1 at 1;?", 23, BOUNDS);
        fault("row 1,2;ask sum 0 1 ? at 1", 20, FORM);
        fault("set 64 ?;row 1", 0, LACKS);
        fault("? set 64", 0, FORM);
    }

    private void textsOf600Bytes() {
        check.about("\"THE TAPE has 600 bytes\"");
        due("row 1,2" + " ".repeat(593), 1);
        due(" ".repeat(593) + "row 1,2", 1);
        due("row 1,2;set 0" + "\n".repeat(585) + "63", 2);
        fault(" ".repeat(600), 600, FORM);
        fault(" ".repeat(597) + "row", 600, FORM);
        fault(" ".repeat(595) + "row 1", 600, LACKS);
        fault("row 1,2" + " ".repeat(592) + ";", 600, FORM);
        fault("row 1,2" + " ".repeat(592) + "?", 599, FORM);
        fault("row 1,2;" + "a".repeat(592), 8, FORM);
        fault("row 1,2;set " + "1".repeat(588), 12, FORM);
        fault(";".repeat(600), 0, FORM);
    }
}
