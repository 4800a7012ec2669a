import java.util.List;

/** Promise 4 again: texts that take the place of others, and nothing left of what was there. */
final class ReuseTest {
    private static final Checks CHECKS = new Checks();
    private static final int NONE = CellLibrary.NONE;
    private static final String ALL = "table t:1 2/1 2/1 2 3 4;table u:1/1/1;"
        + "cell A{in a;out Y=a;drive 1;load 2;area 3;power 4 5;arc a Y pos t u;}cell B{out Y=1;}";

    public static void main(String[] args) {
        sameTextAgain();
        shorterRows();
        smallerFamily();
        faultsBetween();
        refusalsInARow();
        askingChangesNothing();
        CHECKS.finish();
    }

    private static void sameTextAgain() {
        CHECKS.sentence("in place of what was there");
        CountedLibrary x = new CountedLibrary();
        List<Long> first = Picture.of(Checks.of(ALL));
        for (int n = 0; n < 4; n++) {
            CHECKS.due("the same text again", Checks.read(x, ALL), 2);
            CHECKS.due("the same answers again", Picture.of(x).equals(first), true);
        }
    }

    private static void shorterRows() {
        CHECKS.sentence("in place of what was there: nothing of it is left");
        CountedLibrary x = new CountedLibrary();
        for (int n = 0; n < 2; n++) {
            Checks.read(x, "table t:1 50 60 70/2 3 4 5/9 8 7 6 5 4 3 2 1 2 3 4 5 6 7 8;"
                + "cell I{in a;out Y=!a;out Z=a;power 3 4;arc a Y neg t t;}cell J{in a;out Y=!a;area 1;}cell K{in a;out Y=!a;}");
        }
        for (int n = 0; n < 2; n++) {
            CHECKS.due("a shorter text", Checks.read(x, "table t:1/2/30;cell I{in a;out Y=!a;area 5;arc a Y neg t t;}"), 1);
            CHECKS.due("one number alone", x.delay(0, 0, 30, 30, true), 30);
            CHECKS.due("a family of one", x.family(0, 0), 0);
            CHECKS.due("and no more", x.family(0, 1), NONE);
            CHECKS.due("the best is there", x.best(0, 0), 0);
            CHECKS.due("no power", x.power(0, 0), 0);
            CHECKS.index("no second output", () -> x.truth(0, 1));
            CHECKS.index("no third pin", () -> x.letter(0, 2, 0));
            CHECKS.index("no second cell", () -> x.cell(1, 0));
        }
    }

    private static void smallerFamily() {
        CHECKS.sentence("THE FAMILY of a cell, behind that of another");
        CountedLibrary x = Checks.of("cell a{in a;out Y=a;area 9;}cell b{in a;out Y=!a;area 3;}cell c{in a;out Y=a;drive 1;area 1;}");
        CHECKS.due("best of two", x.best(0, 0), 2);
        CHECKS.due("best of one, behind two", x.best(1, 0), 1);
        CHECKS.due("the second of two", x.family(0, 1), 2);
        CHECKS.due("no second, behind two", x.family(1, 1), NONE);
    }

    private static void faultsBetween() {
        CHECKS.sentence("-1 less the fault: then that stays");
        CountedLibrary x = Checks.of(Checks.LIBRARY);
        List<Long> before = Picture.of(x);
        String[] faulty = {"#", "cell X{in a;in b;in c;out P=a;out Q=b;out R=c;drive 9;", "table t:7/7/7;table u:8/8/8;table v:9/9/9;cell",
            "cell AA{in b;in a;out Z=a;power 1 1 1 1;}cell B{out Q=1;}cell B"};
        for (String text : faulty) {
            CHECKS.due("a fault in " + text, Checks.read(x, text) < 0, true);
        }
        CHECKS.due("all answers stay", Picture.of(x).equals(before), true);
    }

    private static void refusalsInARow() {
        CHECKS.sentence("A call that throws changes nothing.");
        CountedLibrary x = Checks.of(Checks.LIBRARY);
        Checks.write(x, "cell C{out ");
        List<Long> before = Picture.of(x);
        int[] outside = {Integer.MIN_VALUE, -2, 64, Integer.MAX_VALUE};
        for (int n : outside) {
            CHECKS.index("cell", () -> x.cell(n, 0));
            CHECKS.index("truth", () -> x.truth(0, n));
            CHECKS.index("sense", () -> x.sense(0, n, 0));
            CHECKS.index("arc", () -> x.arc(0, n, 0));
            CHECKS.index("delay", () -> x.delay(0, n, -1, 0, true));
            CHECKS.argument("delay", () -> x.delay(0, 0, n < 0 ? n : 1000001, 0, true));
            CHECKS.index("power", () -> x.power(0, n));
            CHECKS.index("alike", () -> x.alike(0, n) ? 1 : 0);
            CHECKS.index("order", () -> x.order(0, 1, n));
            CHECKS.index("family", () -> x.family(n, 0));
            CHECKS.argument("best", () -> x.best(0, Math.min(n, -1)));
            CHECKS.index("letter", () -> x.letter(0, n, 0));
            CHECKS.index("count", () -> x.count(n));
        }
        CHECKS.due("all answers stay", Picture.of(x).equals(before), true);
        CHECKS.due("the tape stays", Checks.read(x, "Y=1;}"), 1);
    }

    private static void askingChangesNothing() {
        CHECKS.sentence("Nothing is promised beyond the answers and state changes described above");
        CountedLibrary x = Checks.of(Checks.LIBRARY);
        List<Long> first = Picture.of(x);
        CHECKS.due("the same answers again", Picture.of(x).equals(first), true);
    }
}
