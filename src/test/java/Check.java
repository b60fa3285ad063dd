import java.nio.charset.StandardCharsets;

/** What the tests share: comparing answers, and telling a text. */
final class Check {
    private static final int SHOWN = 40;
    private int wrong = 0;
    private int compared = 0;
    private String about = "";

    void about(String promise) {
        about = promise;
    }

    void due(String call, long got, long want) {
        compared++;
        if (got != want) {
            wrong++;
            if (wrong <= SHOWN) {
                System.out.println(about + ": " + call + " answered " + got + ", due is " + want);
            }
        }
    }

    void due(String call, boolean got, boolean want) {
        due(call, got ? 1 : 0, want ? 1 : 0);
    }

    void dueRow(String call, int[] got, int... want) {
        for (int i = 0; i < want.length; i++) {
            due(call + " no. " + i, i < got.length ? got[i] : Integer.MIN_VALUE, want[i]);
        }
        due(call + ", how many", got.length, want.length);
    }

    boolean isClean() {
        return wrong == 0;
    }

    void finish() {
        System.out.println(wrong == 0 ? compared + " answers are as due" : wrong + " answers are not as due");
        if (wrong != 0) {
            System.exit(1);
        }
    }

    static int[] numbers(byte[] bytes, int from) {
        int[] numbers = new int[5];
        for (int i = 0; i < 20; i++) {
            int b = from + i < bytes.length ? bytes[from + i] & 255 : ' ';
            numbers[i / 4] = numbers[i / 4] << 8 | b;
        }
        return numbers;
    }

    static byte[] bytes(String text) {
        return text.getBytes(StandardCharsets.ISO_8859_1);
    }

    /** Feeds a text, blanks behind it, and has its own bytes read. */
    static int tell(RangePlanner x, String text) {
        byte[] bytes = bytes(text);
        for (int from = 0; from < bytes.length; from += 20) {
            int[] n = numbers(bytes, from);
            x.feed(n[0], n[1], n[2], n[3], n[4]);
        }
        return x.text(bytes.length);
    }

    static int fault(int place, int kind) {
        return -2 - (8 * place + kind);
    }

    static boolean throwsNoSuchElement(RangePlanner x, int question) {
        try {
            x.answer(question);
            return false;
        } catch (java.util.NoSuchElementException e) {
            return true;
        }
    }
}
