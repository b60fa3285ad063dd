import java.lang.reflect.Method;
import java.lang.reflect.Modifier;
import java.nio.file.Files;
import java.nio.file.Path;
import java.util.regex.Matcher;
import java.util.regex.Pattern;

/** README.md says of the class what is so: its example answers as written, its text reads, it names every method. */
public final class ReadmeTest {
    /** A call of the example, and its answer as the remark behind it begins. */
    private static final Pattern CALL = Pattern.compile("(?m)^x\\.(\\w+)\\((.*?)\\);\\s*// (true|false|-?[0-9]+)");
    private static final Pattern TEXT = Pattern.compile("(?s)here ([0-9]+), and .*?here ([0-9]+):\n\n```text\n(.*?)\n```");

    private final Check check = new Check();
    private final String readme;

    private ReadmeTest(String readme) {
        this.readme = readme;
    }

    public static void main(String[] args) throws Exception {
        ReadmeTest all = new ReadmeTest(Files.readString(Path.of("README.md")));
        all.check.about("README.md");
        all.example();
        all.text();
        all.methods();
        all.faults();
        all.check.finish();
    }

    private void example() throws Exception {
        RangePlanner x = new RangePlanner();
        Matcher m = CALL.matcher(readme);
        int calls = 0;
        while (m.find()) {
            calls++;
            String answer = String.valueOf(call(x, m.group(1), m.group(2)));
            check.due(m.group() + " answers " + answer, answer.equals(m.group(3)), true);
        }
        check.due("each call of the example has its answer", calls, readme.split("\nx\\.").length - 1);
        check.due("there is an example", calls > 0, true);
    }

    private static Object call(RangePlanner x, String name, String with) throws Exception {
        String[] parts = with.isEmpty() ? new String[0] : with.split(", ");
        Object[] numbers = new Object[parts.length];
        for (int i = 0; i < parts.length; i++) {
            numbers[i] = parts[i].equals("RangePlanner.NONE") ? RangePlanner.NONE : Integer.parseInt(parts[i]);
        }
        Class<?>[] types = new Class<?>[parts.length];
        java.util.Arrays.fill(types, int.class);
        return RangePlanner.class.getMethod(name, types).invoke(x, numbers);
    }

    private void text() {
        Matcher m = TEXT.matcher(readme);
        boolean found = m.find();
        check.due("there is a text", found, true);
        if (found) {
            check.due("its bytes", m.group(3).length(), Integer.parseInt(m.group(1)));
            check.due("its lines", Check.tell(new RangePlanner(), m.group(3)), Integer.parseInt(m.group(2)));
        }
    }

    private void methods() {
        for (Method m : RangePlanner.class.getDeclaredMethods()) {
            if (Modifier.isPublic(m.getModifiers())) {
                check.due("it names " + m.getName(), readme.contains("`" + m.getName() + "`"), true);
            }
        }
    }

    /** The way back from a number to the place and the kind of a fault. */
    private void faults() {
        check.due("it tells the place", readme.contains("`(-2 - f) / 8`"), true);
        check.due("it tells the kind", readme.contains("`(-2 - f) % 8`"), true);
        int f = Check.tell(new RangePlanner(), "row 1,2;row 3,4");
        check.due("place of a second row", (-2 - f) / 8, 8);
        check.due("kind of a second row", (-2 - f) % 8, 3);
        int first = Check.tell(new RangePlanner(), "");
        check.due("f of a text without a byte is below -2", first < -2, true);
        check.due("place of a text without a byte", (-2 - first) / 8, 0);
        check.due("kind of a text without a byte", (-2 - first) % 8, 1);
    }
}
