/** Promises 11 to 14: alike, order, family, best. */
final class AlikeTest {
    private static final Checks CHECKS = new Checks();
    private static final int NONE = CellLibrary.NONE;
    private static final int[] OUTSIDE = {-1, Integer.MIN_VALUE, Integer.MAX_VALUE, 12};

    public static void main(String[] args) {
        alikes();
        orders();
        sixInputs();
        families();
        bests();
        wrong();
        CHECKS.finish();
    }

    private static void alikes() {
        CellLibrary x = Checks.of("cell AND { in a ; in b ; out Y = a & b ; } cell NOR { in a ; in b ; out Y = !a & !b ; }"
            + "cell NOR2 { in p ; in q ; out Y = !(q | p) ; out Z = p & q ; } cell ONE { out Y = 1 ; } cell ZERO { out Y = 0 ; }"
            + "cell ALSO1 { out Z = !0 ; out Y = 0 ; } cell WIDE { in a ; out Y = 1 ; } cell A { in a ; in b ; out Y = a ; }"
            + "cell B { in a ; in b ; out Y = b ; } cell AND3 { in a ; in b ; in c ; out Y = a & b ; } cell NB { in a ; in b ; out Y = !b ; }");
        String[] due = {"10000000000", "01100000000", "01100000000", "00010100000", "00001000000", "00010100000",
            "00000010000", "00000001100", "00000001100", "00000000010", "00000000001"};
        for (int a = 0; a < due.length; a++) {
            for (int b = 0; b < due.length; b++) {
                CHECKS.due("alike " + a + " " + b, x.alike(a, b), due[a].charAt(b) == '1');
            }
        }
    }

    private static void orders() {
        CellLibrary x = Checks.of("cell P { in s ; in d ; in e ; out Y = s & e | !s & d ; } cell Q { in d ; in e ; in s ; out Y = s & e | !s & d ; }"
            + "cell R { in a ; in b ; in c ; out Y = a & b & c ; } cell S { in a ; in b ; in c ; out Y = a & b | c ; }"
            + "cell T { in a ; in b ; in c ; out Y = b & c | a ; } cell N { out Y = 1 ; }");
        dueOrder(x, 0, 1, 2, 0, 1);
        dueOrder(x, 1, 0, 1, 2, 0);
        dueOrder(x, 0, 0, 0, 1, 2);
        dueOrder(x, 2, 2, 0, 1, 2);
        dueOrder(x, 3, 4, 1, 2, 0);
        dueOrder(x, 4, 3, 2, 0, 1);
        dueOrder(x, 0, 2, NONE, NONE, NONE);
        dueOrder(x, 0, 5, NONE, NONE, NONE);
        CHECKS.index("an order of no inputs", () -> x.order(5, 5, 0));
        CHECKS.index("an order of no inputs, not alike", () -> x.order(5, 0, 0));
    }

    private static void dueOrder(CellLibrary x, int a, int b, int... want) {
        for (int k = 0; k < want.length; k++) {
            CHECKS.due("order " + a + " " + b + " " + k, x.order(a, b, k), want[k]);
        }
        CHECKS.index("order of an input too many", () -> x.order(a, b, want.length));
        CHECKS.index("order of input -1", () -> x.order(a, b, -1));
    }

    private static void sixInputs() {
        String ins = "in a ; in b ; in c ; in d ; in e ; in f ; ";
        CellLibrary x = Checks.of("cell P { " + ins + "out Y = a & !b | c & d ^ e & f & a ; }"
            + "cell Q { " + ins + "out Y = f & !e | b & d ^ a & c & f ; }"
            + "cell R { " + ins + "out Y = a ^ b ^ c ^ d ^ e ^ f ; }"
            + "cell S { " + ins + "out Y = a & b ^ b & c ^ c & d ^ d & e ^ e & f ^ f & a ; }"
            + "cell T { " + ins + "out Y = a & b ^ b & c ^ c & a ^ d & e ^ e & f ^ f & d ; }");
        dueOrder(x, 0, 1, 5, 4, 1, 3, 0, 2);
        dueOrder(x, 2, 2, 0, 1, 2, 3, 4, 5);
        dueOrder(x, 3, 3, 0, 1, 2, 3, 4, 5);
        dueOrder(x, 3, 4, NONE, NONE, NONE, NONE, NONE, NONE);
        CHECKS.due("alike of six", x.alike(1, 0), true);
        CHECKS.due("a ring and two triangles", x.alike(3, 4), false);
    }

    private static void families() {
        CellLibrary x = Checks.of("cell BC { in a ; out Y = !a ; drive 2 ; } cell B { in z ; out Y = !z ; drive 2 ; }"
            + "cell BUF { in a ; out Y = a ; } cell A9 { in a ; out Y = !a ; drive 10 ; } cell Z { in a ; out Y = a ^ 1 ; drive 1 ; }"
            + "cell _a { in a ; out Y = !a ; drive 2 ; } cell b { in a ; out Y = !a ; drive 2 ; } cell B0 { in a ; out Y = !a ; drive 2 ; }"
            + "cell NONE { in a ; out Y = !a ; } cell BCDEFGHI { in a ; out Y = !a ; drive 2 ; }");
        int[] due = {8, 4, 1, 7, 0, 9, 5, 6, 3};
        int[] heads = {0, 1, 3, 4, 5, 6, 7, 8, 9};
        for (int head : heads) {
            for (int i = 0; i < due.length; i++) {
                CHECKS.due("family of " + head + ", " + i, x.family(head, i), due[i]);
            }
            CHECKS.due("behind the family of " + head, x.family(head, due.length), NONE);
        }
        CHECKS.due("a family of one", x.family(2, 0), 2);
        CHECKS.due("behind a family of one", x.family(2, 1), NONE);
        CHECKS.due("far behind", x.family(2, Integer.MAX_VALUE), NONE);
    }

    private static void bests() {
        CellLibrary x = Checks.of("cell X8 { in a ; out Y = !a ; drive 8 ; load 80 ; area 9 ; } cell X1 { in a ; out Y = !a ; drive 1 ; load 10 ; area 2 ; }"
            + "cell X4 { in a ; out Y = !a ; drive 4 ; load 40 ; area 5 ; } cell X2 { in a ; out Y = !a ; drive 2 ; load 20 ; area 5 ; }"
            + "cell BUF { in a ; out Y = a ; load 999999 ; } cell X3 { in a ; out Y = !a ; drive 2 ; load 30 ; area 5 ; }"
            + "cell X9 { in a ; out Y = !a ; drive 9 ; load 5 ; area 1 ; }");
        int[][] due = {{0, 6}, {5, 6}, {6, 1}, {10, 1}, {11, 3}, {20, 3}, {21, 5}, {30, 5}, {31, 2}, {40, 2}, {41, 0}, {80, 0},
            {81, NONE}, {Integer.MAX_VALUE, NONE}};
        for (int[] row : due) {
            for (int head = 0; head < 4; head++) {
                CHECKS.due("best of " + head + " for " + row[0], x.best(head, row[0]), row[1]);
            }
        }
        CHECKS.due("best of another family", x.best(4, 999999), 4);
        CHECKS.due("none there", x.best(4, 1000000), NONE);
    }

    private static void wrong() {
        CellLibrary x = Checks.of("cell c { in a ; out Y = a ; } cell d { in a ; out Y = !a ; }");
        for (int n : OUTSIDE) {
            CHECKS.index("alike " + n, () -> x.alike(n, 0) ? 1 : 0);
            CHECKS.index("alike with " + n, () -> x.alike(0, n) ? 1 : 0);
            CHECKS.index("order " + n, () -> x.order(n, 0, 0));
            CHECKS.index("order with " + n, () -> x.order(0, n, 0));
            CHECKS.index("order at " + n, () -> x.order(0, 0, n));
            CHECKS.index("order at, not alike, " + n, () -> x.order(0, 1, n));
            CHECKS.index("family of " + n, () -> x.family(n, 0));
            CHECKS.index("best of " + n, () -> x.best(n, 0));
            CHECKS.index("best of, before its load, " + n, () -> x.best(n, -1));
        }
        CHECKS.index("alike 2 of 2", () -> x.alike(2, 0) ? 1 : 0);
        CHECKS.index("family -1", () -> x.family(0, -1));
        CHECKS.index("the least of a family", () -> x.family(0, Integer.MIN_VALUE));
        CHECKS.argument("load -1", () -> x.best(0, -1));
        CHECKS.argument("the least load", () -> x.best(0, Integer.MIN_VALUE));
    }
}
