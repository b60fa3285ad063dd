import java.lang.reflect.Constructor;
import java.lang.reflect.Field;
import java.lang.reflect.Method;
import java.lang.reflect.Modifier;
import java.nio.file.Files;
import java.nio.file.Path;
import java.util.ArrayList;
import java.util.List;
import java.util.Set;
import java.util.TreeSet;
import java.util.regex.Matcher;
import java.util.regex.Pattern;

/** The public face is the document's and no more; the source keeps to what can be seen of LANGUAGE.md. */
public final class FaceTest {
    private static final Path SOURCE = Path.of("src/main/java/RangePlanner.java");
    private static final Set<String> FACE = Set.of(
        "int feed(int, int, int, int, int)", "int text(int)", "int cell(int, int)", "int change(int, int)",
        "int ask(int, int, int, int)", "int drop()", "int weight(int)", "int set(int, int)", "boolean back()",
        "long answer(int) throws java.util.NoSuchElementException", "int at(int, int)", "int of(int, int)",
        "int planned(int, int, int)", "int moves(int, int, int)", "int best(int, int)", "int split(int, int)",
        "int move(int, int)", "int saves(int)", "int would(int, int, int, int)", "int undone(int, int)",
        "int adds(int, int)", "int walk(int)", "int home()", "int window(int)", "int holds(int)",
        "long tells(int)", "int touched(int, int)", "int count(int)");

    private final Check check = new Check();

    public static void main(String[] args) throws Exception {
        FaceTest all = new FaceTest();
        all.check.about("the face");
        all.methods();
        all.fieldsAndConstructors();
        all.classesInside();
        all.check.about("LANGUAGE.md");
        all.words();
        all.lengths();
        all.check.finish();
    }

    private void methods() {
        Set<String> open = new TreeSet<>();
        Set<String> openNames = new TreeSet<>();
        List<String> closedNames = new ArrayList<>();
        for (Method m : RangePlanner.class.getDeclaredMethods()) {
            if (Modifier.isPrivate(m.getModifiers())) {
                closedNames.add(m.getName());
            } else {
                openNames.add(m.getName());
                open.add(m.toGenericString().replace("public ", "").replace("RangePlanner.", "").replace(",", ", "));
            }
        }
        for (String m : FACE) {
            check.due("there is " + m, open.contains(m), true);
        }
        for (String m : open) {
            check.due("due is " + m, FACE.contains(m), true);
        }
        for (String name : closedNames) {
            check.due("a private method bears the name " + name, openNames.contains(name), false);
        }
    }

    private void fieldsAndConstructors() throws Exception {
        check.due("public and final", RangePlanner.class.getModifiers(), Modifier.PUBLIC | Modifier.FINAL);
        for (Field f : RangePlanner.class.getDeclaredFields()) {
            check.due("private is " + f, Modifier.isPrivate(f.getModifiers()), !f.getName().equals("NONE"));
        }
        Field none = RangePlanner.class.getDeclaredField("NONE");
        check.due("NONE", none.getModifiers(), Modifier.PUBLIC | Modifier.STATIC | Modifier.FINAL);
        Constructor<?>[] all = RangePlanner.class.getDeclaredConstructors();
        check.due("constructors", all.length, 1);
        check.due("it is public", Modifier.isPublic(all[0].getModifiers()), true);
        check.due("it takes nothing", all[0].getParameterCount(), 0);
    }

    private void classesInside() {
        Class<?>[] inside = RangePlanner.class.getDeclaredClasses();
        check.due("some twelve classes at most", inside.length <= 12, true);
        for (Class<?> c : inside) {
            check.due("static is " + c, Modifier.isStatic(c.getModifiers()), true);
            check.due("closed is " + c, Modifier.isPublic(c.getModifiers()), false);
            fieldsOf(c);
        }
        fieldsOf(RangePlanner.class);
    }

    private void fieldsOf(Class<?> c) {
        int fields = 0;
        for (Field f : c.getDeclaredFields()) {
            if (Modifier.isStatic(f.getModifiers())) {
                check.due("final is " + f, Modifier.isFinal(f.getModifiers()), true);
            } else {
                fields++;
            }
        }
        check.due("some twenty fields at most in " + c, fields <= 20, true);
        for (Method m : c.getDeclaredMethods()) {
            check.due("seven parameters at most has " + m, m.getParameterCount() <= 7, true);
        }
    }

    private void words() throws Exception {
        String source = Files.readString(SOURCE);
        String code = source.replaceAll("(?s)/\\*.*?\\*/", "").replaceAll("//[^\n]*", "");
        String[] ruledOut = {"->", "::", "Exact\\(", "\\bfinally\\b", "\\bsynchronized\\b", "\\bassert\\b", "\\btry\\b",
            "\\bcatch\\b", "\\bpackage\\b", "\\bprotected\\b", "System\\.(?!arraycopy)", "\\bRandom\\b", "\\bThread\\b",
            "\\bdouble\\b", "\\bfloat\\b", "\\bObject\\b", "\\bvar\\b", "\\bstatic \\{", "hashCode", "toString",
            "\\[\\]\\[\\]\\[\\]"};
        for (String word : ruledOut) {
            check.due("the code has " + word, Pattern.compile(word).matcher(code).find(), false);
        }
        Matcher imports = Pattern.compile("import ([^;]+);").matcher(code);
        while (imports.find()) {
            check.due("import " + imports.group(1),
                Set.of("java.util.Arrays", "java.util.NoSuchElementException").contains(imports.group(1)), true);
        }
        Matcher thrown = Pattern.compile("throw (?:new )?(\\w+)").matcher(code);
        while (thrown.find()) {
            check.due("throw " + thrown.group(1), thrown.group(1).equals("NoSuchElementException"), true);
        }
        for (char c : source.toCharArray()) {
            check.due("a sign of 1 to 126", c == '\n' || c >= 32 && c < 127, true);
        }
    }

    private void lengths() throws Exception {
        int start = -1;
        int number = 0;
        Pattern head = Pattern.compile("^ {4}(?: {4})?[a-zA-Z].*\\) (?:throws \\w+ )?\\{$");
        for (String line : Files.readAllLines(SOURCE)) {
            number++;
            if (head.matcher(line).find()) {
                start = number;
            } else if (line.matches("^ {4}(?: {4})?\\}$") && start > 0) {
                check.due("sixty lines at most has the method in line " + start, number - start <= 60, true);
                start = -1;
            }
            check.due("a line of 120 signs at most, " + number, line.length() <= 120, true);
        }
    }
}
