/** Promise 4 again: texts that take the place of others, full rows, and nothing left of what was there. */
final class ReuseTest {
    private static final Checks CHECKS = new Checks();
    private static final int NONE = CellLibrary.NONE;

    public static void main(String[] args) {
        sameTextAgain();
        shorterRows();
        fullRows();
        endOfTheTape();
        throwsChangeNothing();
        CHECKS.finish();
    }

    private static void sameTextAgain() {
        CellLibrary x = new CellLibrary();
        for (int n = 0; n < 5; n++) {
            CHECKS.due("the same text again",
                Checks.read(x, "table t:1/1/1;table u:1/1/1;cell A{in a;out Y=a;}cell B{out Y=1;}"), 2);
            CHECKS.due("its tables", x.count(1), 2);
        }
    }

    private static void shorterRows() {
        CellLibrary x = new CellLibrary();
        for (int n = 0; n < 2; n++) {
            Checks.read(x, "table t:1 50 60 70/2 3 4 5/9 8 7 6 5 4 3 2 1 2 3 4 5 6 7 8;"
                + "cell I{in a;out Y=!a;out Z=a;power 3 4;arc a Y neg t t;}cell J{in a;out Y=!a;area 1;}cell K{in a;out Y=!a;}");
        }
        for (int n = 0; n < 2; n++) {
            CHECKS.due("a shorter text", Checks.read(x, "table t:1/2/30;cell I{in a;out Y=!a;area 5;arc a Y neg t t;}"), 1);
            CHECKS.due("one number alone", x.delay(0, 0, 30, 30, true), 30);
            CHECKS.due("a family of one", x.family(0, 0), 0);
            CHECKS.due("and no more", x.family(0, 1), NONE);
            CHECKS.due("the best is there", x.best(0, 0), 0);
            CHECKS.due("no power", x.power(0, 0), 0);
            CHECKS.index("no second output", () -> x.truth(0, 1));
            CHECKS.index("no third pin", () -> x.letter(0, 2, 0));
            CHECKS.index("no second cell", () -> x.cell(1, 0));
        }
    }

    private static void fullRows() {
        StringBuilder text = new StringBuilder();
        for (int i = 0; i < 12; i++) {
            text.append("cell c").append((char) ('a' + i)).append("{in a;out Y=a;drive ").append(12 - i)
                .append(";load ").append(i).append(";area ").append(i + 1).append(";}");
        }
        CellLibrary x = Checks.of(text.toString());
        for (int i = 0; i < 12; i++) {
            CHECKS.due("family of twelve " + i, x.family(3, i), 11 - i);
            CHECKS.due("best of twelve for " + i, x.best(3, i), i);
        }
        CHECKS.due("behind twelve", x.family(3, 12), NONE);
        CHECKS.due("none of twelve", x.best(3, 12), NONE);
        CellLibrary y = Checks.of("cell a{in a;out Y=a;area 9;}cell b{in a;out Y=!a;area 3;}cell c{in a;out Y=a;drive 1;area 1;}");
        CHECKS.due("best of two", y.best(0, 0), 2);
        CHECKS.due("best of one, behind two", y.best(1, 0), 1);
    }

    private static void endOfTheTape() {
        String body = "cell c{out Y=1;drive ";
        String[] ends = {"7", "a", "1234567", "ninechars"};
        for (String end : ends) {
            CellLibrary x = new CellLibrary();
            String text = body + " ".repeat(1400 - body.length() - end.length()) + end;
            boolean standing = end.equals("7");
            CHECKS.due("a full tape that ends in " + end, Checks.read(x, text), -1 - (standing ? 1400 : 1400 - end.length()));
        }
        CellLibrary x = new CellLibrary();
        Checks.read(x, "1".repeat(60));
        CHECKS.due("digits of an older text behind a number", Checks.read(x, body + "12"), -1 - body.length() - 2);
        Checks.read(x, "a".repeat(60));
        CHECKS.due("letters of an older text behind a name", Checks.read(x, "cell c{in bb"), -13);
        CHECKS.due("a full tape", Checks.read(x, " ".repeat(1384) + "cell c{out Y=1;}"), 1);
        CHECKS.due("the place of its name", x.cell(0, 7), 1389);
    }

    private static void throwsChangeNothing() {
        CellLibrary x = Checks.of("cell c{in a;out Y=a;area 4;}");
        x.unit('#');
        CHECKS.index("cell", () -> x.cell(1, 0));
        CHECKS.index("family", () -> x.family(0, -1));
        CHECKS.argument("best", () -> x.best(0, -1));
        CHECKS.due("cells", x.count(0), 1);
        CHECKS.due("tape", x.count(2), 1);
        CHECKS.due("area", x.cell(0, 5), 4);
        CHECKS.due("best", x.best(0, 0), 0);
        CHECKS.due("read", x.read(), -1);
    }
}
