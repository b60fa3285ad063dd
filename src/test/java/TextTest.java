/** FAULTS of THE TEXT, each at its place (promise 3). */
public final class TextTest {
    private static final int FORM = 1;
    private static final int BOUNDS = 2;
    private static final int SECOND = 3;
    private static final int MANY = 4;
    private static final int LACKS = 5;

    private final Check check = new Check();

    public static void main(String[] args) {
        TextTest all = new TextTest();
        all.form();
        all.tokens();
        all.bounds();
        all.secondRow();
        all.many();
        all.lacks();
        all.firstFromTheLeft();
        all.check.finish();
    }

    /** The place is where the mark ^ stands, which is no part of the text. */
    private void fault(String marked, int kind) {
        int place = marked.indexOf('^');
        String text = marked.substring(0, place) + marked.substring(place + 1);
        check.due("\"" + marked + "\"", Check.tell(new RangePlanner(), text), Check.fault(place, kind));
    }

    private void good(String text, int lines) {
        check.due("\"" + text + "\"", Check.tell(new RangePlanner(), text), lines);
    }

    private void form() {
        check.about("FORM");
        fault("^", FORM);
        fault("  \n ^", FORM);
        fault("^;", FORM);
        fault("^rows 1,2", FORM);
        fault("^ro 1,2", FORM);
        fault("row^", FORM);
        fault("row  ^", FORM);
        fault("row ^,1", FORM);
        fault("row 1,^", FORM);
        fault("row 1,^,2", FORM);
        fault("row 1,2,^;ask sum 0 1", FORM);
        fault("row 1 ^2", FORM);
        fault("row 1,2 ^3", FORM);
        fault("row 1,2 ^row 3,4", FORM);
        fault("row 1,2;^", FORM);
        fault("row 1,2;  ^", FORM);
        fault("row 1,2;^;ask sum 0 1", FORM);
        fault("row 1,2;^at 1", FORM);
        fault("row 1,2;^1", FORM);
        fault("row 1,2;^sum 0 1", FORM);
        fault("row 1,2;set^", FORM);
        fault("row 1,2;set 0^", FORM);
        fault("row 1,2;set 0^,1", FORM);
        fault("row 1,2;set 0 1 ^2", FORM);
        fault("row 1,2;set 0 1 ^at 0", FORM);
        fault("row 1,2;ask ^0 1", FORM);
        fault("row 1,2;ask ^", FORM);
        fault("row 1,2;ask ^sums 0 1", FORM);
        fault("row 1,2;ask ^pair 0 1", FORM);
        fault("row 1,2;ask ^at 0 1", FORM);
        fault("row 1,2;ask sum ^sum 0 1", FORM);
        fault("row 1,2;ask sum 0 ^", FORM);
        fault("row 1,2;ask sum 0 ^at 1", FORM);
        fault("row 1,2;ask sum 0 1 ^1", FORM);
        fault("row 1,2;ask sum 0 1 at^", FORM);
        fault("row 1,2;ask sum 0 1 at ^;", FORM);
        fault("row 1,2;ask sum 0 1 at 0 ^at 0", FORM);
        fault("row 1,2;ask sum 0 1 ^by 0", FORM);
    }

    private void tokens() {
        check.about("TOKENS");
        fault("^Row 1,2", FORM);
        fault("row^\t1,2", FORM);
        fault("row ^-1,2", FORM);
        fault("row 1^.5,2", FORM);
        fault("row 1^\r,2", FORM);
        fault("row 1,2;ask sum 0 1^\u00e1", FORM);
        fault("row 1,2;ask sum 0 1^\u0000", FORM);
        fault("row ^100,2", FORM);
        fault("row ^001,2", FORM);
        fault("row 1,^0000000002", FORM);
        fault("row 1,2;ask ^missings 0 1", FORM);
        fault("row 1,2;ask ^unlikely 0 1", FORM);
        fault("^rowrowrow 1,2", FORM);
        fault("^rowz 1,2", FORM);
        fault("row 1,2;ask ^asum 0 1", FORM);
        fault("row 1,2;ask sum^{ 0 1", FORM);
        fault("row 1,2;ask sum^` 0 1", FORM);
        fault("row 1,2;ask sum 0 1^:", FORM);
        fault("row 1,2;ask sum 0 1^/", FORM);
        good("row 0,9;set 1 09;ask sum 0 1", 3);
        fault("row 1,2;ask ^sumsum 0 1", FORM);
        good("row 00,01", 1);
        good("row0,1;ask sum0 1at0;set0 1", 3);
        good("row\n0\n,\n1\n;\nset\n0\n1\n", 2);
        good(" row 0,1", 1);
        good("row 0,1;ask missing 0 1", 2);
    }

    private void bounds() {
        check.about("BOUNDS");
        fault("row ^64,2", BOUNDS);
        fault("row 63,^99", BOUNDS);
        good("row 63,0", 1);
        fault("row 1,2;set ^2 0", BOUNDS);
        fault("row 1,2;set 1 ^64", BOUNDS);
        good("row 1,2;set 1 63", 2);
        fault("row 1,2;ask sum ^2 2", BOUNDS);
        fault("row 1,2;ask sum 1 ^2", BOUNDS);
        fault("row 1,2;ask sum 1 ^0", BOUNDS);
        good("row 1,2;ask sum 1 1", 2);
        fault("row 1,2;ask sum 0 1 at ^1", BOUNDS);
        fault("row 1,2;ask sum 0 1 at ^1;set 0 1", BOUNDS);
        fault("row 1,2;set 0 1;ask sum 0 1 at ^2", BOUNDS);
        good("row 1,2;set 0 1;ask sum 0 1 at 1;ask sum 0 1 at 0", 4);
    }

    private void secondRow() {
        check.about("a second row");
        fault("row 1,2;^row 3,4", SECOND);
        fault("row 1,2;set 0 0; ^row", SECOND);
        fault("row 1,2;ask sum 0 0 at 0;^row 1", SECOND);
    }

    private void many() {
        check.about("MANY");
        String sixty = "row 0" + ",1".repeat(59);
        good(sixty, 1);
        fault(sixty + ",^1", MANY);
        fault(sixty + ",^64", BOUNDS);
        fault(sixty + ",^;", FORM);
        fault(sixty + ",^", FORM);
        String changes = "row 1,2" + ";set 0 1".repeat(32);
        good(changes + ";ask sum 0 1 at 32", 34);
        fault(changes + ";^set 0 1", MANY);
        fault(changes + ";^set", MANY);
        fault(changes + ";ask sum 0 1; ^set 9 9", MANY);
        String questions = "row 1,2" + ";ask sum 0 1".repeat(24);
        good(questions + ";set 0 1", 26);
        fault(questions + ";^ask sum 0 1", MANY);
        fault(questions + ";set 0 1;^ask nothing", MANY);
    }

    private void lacks() {
        check.about("LACKS");
        fault("^set 0 0", LACKS);
        fault(" ^ask sum 0 0;row 1,2", LACKS);
        fault("^set", LACKS);
        fault("^ask nothing", LACKS);
        fault("row 1^", LACKS);
        fault("row 1 \n ^", LACKS);
        fault("row 1^;set 0 0", LACKS);
        fault("row 1 ^;", LACKS);
        fault("row 1 ^set 0 0", FORM);
    }

    private void firstFromTheLeft() {
        check.about("the first from the left");
        fault("row ^64", BOUNDS);
        fault("row ^64,2;row 1,2", BOUNDS);
        fault("row 1^;row 1,2", LACKS);
        fault("row 1,2;ask sum ^9 9 ?", BOUNDS);
        fault("row 1,2;ask ^what 9 9", FORM);
        fault("row 1,2;^row 64,2 ?", SECOND);
        fault("^? row 1,2", FORM);
    }
}
