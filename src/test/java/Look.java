import java.util.ArrayList;
import java.util.List;
import java.util.NoSuchElementException;

/** Objects that several tests begin with, and rows of answers that they compare. */
final class Look {
    static final int MOST_CELLS = 60;
    static final int MOST_CHANGES = 32;
    static final int MOST_QUESTIONS = 24;
    static final int MOST_BYTES = 600;
    static final String[] KINDS = {"sum", "unlike", "often", "which", "power", "missing", "parts", "pairs"};

    private Look() { }

    static RangePlanner told(String text) {
        RangePlanner x = new RangePlanner();
        Check.tell(x, text);
        return x;
    }

    /** As many CELLS as that, all of one number. */
    static RangePlanner cells(int n, int v) {
        return told("row " + v + ("," + v).repeat(n - 1));
    }

    /** 60 unlike CELLS, 0 to 59. */
    static RangePlanner upwards() {
        StringBuilder text = new StringBuilder("row 0");
        for (int i = 1; i < MOST_CELLS; i++) {
            text.append(',').append(i);
        }
        return told(text.toString());
    }

    /** No room for one more CHANGE, QUESTION, byte or ACT; the WINDOW is on its way. */
    static RangePlanner full() {
        RangePlanner x = upwards();
        for (int k = 0; k < MOST_CHANGES; k++) {
            x.change(5 * k % MOST_CELLS, 11 * k % 64);
        }
        for (int q = 0; q < MOST_QUESTIONS; q++) {
            int first = 13 * q % MOST_CELLS;
            x.ask(q % 8, first, Math.min(MOST_CELLS - 1, first + 7 * q % 30), 9 * q % (MOST_CHANGES + 1));
        }
        while (x.count(10) < MOST_BYTES) {
            x.feed(0x20202020, 0x20202020, 0x20202020, 0x20202020, 0x20202020);
        }
        x.walk(100);
        return x;
    }

    static int[] plan(RangePlanner x, int order, int b) {
        int[] row = new int[x.planned(order, b, RangePlanner.NONE)];
        for (int i = 0; i < row.length; i++) {
            row[i] = x.planned(order, b, i);
        }
        return row;
    }

    static int[] undoing(RangePlanner x, int b) {
        int[] row = new int[x.undone(b, RangePlanner.NONE)];
        for (int i = 0; i < row.length; i++) {
            row[i] = x.undone(b, i);
        }
        return row;
    }

    static int[] window(RangePlanner x) {
        int[] row = new int[8];
        for (int what = 0; what < 8; what++) {
            row[what] = x.window(what);
        }
        return row;
    }

    static int[] counts(RangePlanner x) {
        int[] row = new int[11];
        for (int what = 0; what < 11; what++) {
            row[what] = x.count(what);
        }
        return row;
    }

    /** What an object holds, by at most 330 calls: an object may be used for 512. */
    static int[] all(RangePlanner x) {
        List<Integer> row = new ArrayList<>();
        addAll(row, counts(x));
        addAll(row, window(x));
        for (int v = 0; v < 64; v++) {
            row.add(x.holds(v));
        }
        for (int kind = 0; kind < 8; kind++) {
            row.add((int) x.tells(kind));
        }
        int cells = row.get(0);
        int changes = row.get(1);
        int questions = row.get(2);
        for (int i = 0; i < cells; i++) {
            row.add(x.at(i, 0));
            row.add(x.at(i, changes));
        }
        for (int q = 0; q < questions; q++) {
            for (int what = 0; what < 4; what++) {
                row.add(x.of(q, what));
            }
            row.add(answer(x, q));
        }
        return row.stream().mapToInt(Integer::intValue).toArray();
    }

    private static void addAll(List<Integer> row, int[] more) {
        for (int one : more) {
            row.add(one);
        }
    }

    /** A thrown NoSuchElementException counts as the least number, which is no ANSWER. */
    static int answer(RangePlanner x, int question) {
        try {
            return (int) x.answer(question);
        } catch (NoSuchElementException e) {
            return Integer.MIN_VALUE;
        }
    }
}
