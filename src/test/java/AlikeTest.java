/** Promises 11 to 14: alike, order, family, best. */
final class AlikeTest {
    private static final Checks CHECKS = new Checks();
    private static final int NONE = CellLibrary.NONE;
    private static final int[] OUTSIDE = {Integer.MIN_VALUE, -1, 2, 12, Integer.MAX_VALUE};
    private static final String SIX = "in a ; in b ; in c ; in d ; in e ; in f ; ";

    public static void main(String[] args) {
        alikes();
        asManyInputs();
        firstOutputs();
        noInputs();
        alikeOutside();
        orders();
        leastOrder();
        leastOfEach();
        ordersOfSix();
        notAlike();
        orderOutside();
        byDrive();
        byName();
        familyOfOne();
        familyOfTwelve();
        notSoMany();
        familyOutside();
        loadGreatEnough();
        leastArea();
        firstOfTheFamily();
        noneIsGreatEnough();
        bestOutside();
        bestNamedFirst();
        CHECKS.finish();
    }

    private static void alikes() {
        CHECKS.sentence("Two cells are ALIKE if .. for some ORDER of them, the same truth of their first outputs");
        CountedLibrary x = Checks.of("cell AND { in a ; in b ; out Y = a & b ; } cell NOR { in a ; in b ; out Y = !a & !b ; }"
            + "cell NOR2 { in p ; in q ; out Y = !(q | p) ; out Z = p & q ; } cell ONE { out Y = 1 ; } cell ZERO { out Y = 0 ; }"
            + "cell ALSO1 { out Z = !0 ; out Y = 0 ; } cell WIDE { in a ; out Y = 1 ; } cell A { in a ; in b ; out Y = a ; }"
            + "cell B { in a ; in b ; out Y = b ; } cell AND3 { in a ; in b ; in c ; out Y = a & b ; } cell NB { in a ; in b ; out Y = !b ; }");
        String[] due = {"10000000000", "01100000000", "01100000000", "00010100000", "00001000000", "00010100000",
            "00000010000", "00000001100", "00000001100", "00000000010", "00000000001"};
        for (int a = 0; a < due.length; a++) {
            for (int b = 0; b < due.length; b++) {
                CHECKS.due("alike " + a + " " + b, x.alike(a, b), due[a].charAt(b) == '1');
            }
        }
    }

    private static String cellOf(String name, int inputs, String exp) {
        StringBuilder text = new StringBuilder("cell " + name + "{");
        for (int i = 0; i < inputs; i++) {
            text.append("in ").append((char) ('a' + i)).append(';');
        }
        return text + "out Y=" + exp + ";}";
    }

    private static void asManyInputs() {
        CHECKS.sentence("if they have as many inputs");
        String[] functions = {"0", "a&!a", "a&b&!a"};
        for (String exp : functions) {
            for (int n = 2; n <= 5; n++) {
                CountedLibrary x = Checks.of(cellOf("P", n, exp) + cellOf("Q", n, exp) + cellOf("R", n + 1, exp) + cellOf("S", n - 1, "0"));
                CHECKS.due("as many", x.alike(0, 1), true);
                CHECKS.due("one more", x.alike(0, 2), false);
                CHECKS.due("one more, the other way", x.alike(2, 0), false);
                CHECKS.due("one less", x.alike(0, 3), false);
                CHECKS.due("its family", x.family(0, 1), 1);
                CHECKS.due("no more in it", x.family(0, 2), NONE);
            }
        }
        // The truths of the two, 8, are the same bits.
        CountedLibrary bits = Checks.of("cell P{in a;in b;out Y=a&b;}cell Q{in a;in b;in c;out Y=a&b&!c;}");
        CHECKS.due("the same bits", bits.truth(0, 0) == bits.truth(1, 0), true);
        CHECKS.due("the same bits, but an input more", bits.alike(0, 1), false);
    }

    private static void firstOutputs() {
        CHECKS.sentence("the same truth of their first outputs");
        CountedLibrary x = Checks.of("cell P{in a;out X=a;out Y=!a;out Z=1;}cell Q{in a;out X=a;}cell R{in a;out X=!a;out Y=a;}cell S{in a;out Y=!a;}");
        CHECKS.due("the first alone", x.alike(0, 1), true);
        CHECKS.due("the second is not asked", x.alike(0, 2), false);
        CHECKS.due("the first of another", x.alike(2, 3), true);
        CHECKS.due("the second of one and the first of the other", x.alike(0, 3), false);
    }

    private static void noInputs() {
        CHECKS.sentence("ALIKE: no inputs");
        CountedLibrary x = Checks.of("cell P{out Y=1;}cell Q{out Y=1;drive 1;}cell R{out Y=0;}");
        CHECKS.due("itself", x.alike(0, 0), true);
        CHECKS.due("the same", x.alike(0, 1), true);
        CHECKS.due("another", x.alike(0, 2), false);
        CHECKS.index("an order of no inputs", () -> x.order(0, 1, 0));
        CHECKS.index("an order of no inputs, not alike", () -> x.order(0, 2, 0));
        CHECKS.due("the family", x.family(1, 0), 0);
        CHECKS.due("the family", x.family(1, 1), 1);
        CHECKS.due("the family", x.family(1, 2), NONE);
        CHECKS.due("the family of the other", x.family(2, 0), 2);
        CHECKS.due("the family of the other", x.family(2, 1), NONE);
    }

    private static void alikeOutside() {
        CHECKS.sentence("alike: IndexOutOfBoundsException: there is no such cell");
        CountedLibrary x = Checks.of(Checks.LIBRARY);
        CHECKS.due("the last cell", x.alike(1, 1), true);
        CHECKS.due("the first and the last cell", x.alike(0, 1), true);
        for (int n : OUTSIDE) {
            CHECKS.refused("alike " + n, Checks.INDEX, library -> library.alike(n, 0) ? 1 : 0);
            CHECKS.refused("alike with " + n, Checks.INDEX, library -> library.alike(0, n) ? 1 : 0);
            CHECKS.refused("alike both " + n, Checks.INDEX, library -> library.alike(n, n) ? 1 : 0);
        }
    }

    private static void orders() {
        CHECKS.sentence("input k of the one stands for input p(k) of the other");
        CountedLibrary x = Checks.of("cell P { in s ; in d ; in e ; out Y = s & e | !s & d ; } cell Q { in d ; in e ; in s ; out Y = s & e | !s & d ; }"
            + "cell R { in a ; in b ; in c ; out Y = a & b & c ; } cell S { in a ; in b ; in c ; out Y = a & b | c ; }"
            + "cell T { in a ; in b ; in c ; out Y = b & c | a ; }");
        dueOrder(x, 0, 1, 2, 0, 1);
        dueOrder(x, 1, 0, 1, 2, 0);
        dueOrder(x, 0, 0, 0, 1, 2);
        dueOrder(x, 2, 2, 0, 1, 2);
        dueOrder(x, 3, 4, 1, 2, 0);
        dueOrder(x, 4, 3, 2, 0, 1);
    }

    private static void dueOrder(CountedLibrary x, int a, int b, int... want) {
        for (int k = 0; k < want.length; k++) {
            CHECKS.due("order " + a + " " + b + " " + k, x.order(a, b, k), want[k]);
        }
        CHECKS.index("order of an input too many", () -> x.order(a, b, want.length));
        CHECKS.index("order of input -1", () -> x.order(a, b, -1));
    }

    private static void leastOrder() {
        CHECKS.sentence("Of all such orders that with the least p(0), then the least p(1), and so on is THE ORDER.");
        for (int n = 1; n <= 6; n++) {
            String[] all = {"0", "1", "abcdef".substring(0, n).replaceAll("(.)", "$1&") + "1", "abcdef".substring(0, n).replaceAll("(.)", "$1^") + "0"};
            for (String exp : all) {
                CountedLibrary x = Checks.of(cellOf("P", n, exp) + cellOf("Q", n, exp));
                for (int k = 0; k < n; k++) {
                    CHECKS.due("order of " + exp + ", " + k, x.order(0, 1, k), k);
                }
            }
        }
    }

    private static void leastOfEach() {
        CHECKS.sentence("with the least p(0), then the least p(1), and so on");
        // Two pairs: input 0 may stand for any of four, and then its mate is given.
        CountedLibrary x = Checks.of("cell P{in a;in b;in c;in d;out Y=a&b|c&d;}cell Q{in a;in b;in c;in d;out Y=a&c|b&d;}"
            + "cell R{in a;in b;in c;in d;out Y=a&d|b&c;}cell S{in a;in b;in c;in d;out Y=a&!b;}cell T{in a;in b;in c;in d;out Y=d&!c;}");
        dueOrder(x, 0, 1, 0, 2, 1, 3);
        dueOrder(x, 1, 0, 0, 2, 1, 3);
        dueOrder(x, 0, 2, 0, 3, 1, 2);
        dueOrder(x, 2, 0, 0, 2, 3, 1);
        dueOrder(x, 1, 2, 0, 1, 3, 2);
        dueOrder(x, 3, 4, 3, 2, 0, 1);
        dueOrder(x, 4, 3, 2, 3, 1, 0);
    }

    private static void ordersOfSix() {
        CHECKS.sentence("THE ORDER, six inputs");
        CountedLibrary x = Checks.of("cell P { " + SIX + "out Y = a & !b | c & d ^ e & f & a ; }"
            + "cell Q { " + SIX + "out Y = f & !e | b & d ^ a & c & f ; }"
            + "cell R { " + SIX + "out Y = a ^ b ^ c ^ d ^ e ^ f ; }"
            + "cell S { " + SIX + "out Y = a & b ^ b & c ^ c & d ^ d & e ^ e & f ^ f & a ; }"
            + "cell T { " + SIX + "out Y = a & b ^ b & c ^ c & a ^ d & e ^ e & f ^ f & d ; }"
            + "cell U { " + SIX + "out Y = f ; } cell V { " + SIX + "out Y = a ; }");
        dueOrder(x, 0, 1, 5, 4, 1, 3, 0, 2);
        dueOrder(x, 2, 2, 0, 1, 2, 3, 4, 5);
        dueOrder(x, 3, 3, 0, 1, 2, 3, 4, 5);
        dueOrder(x, 3, 4, NONE, NONE, NONE, NONE, NONE, NONE);
        dueOrder(x, 5, 6, 1, 2, 3, 4, 5, 0);
        dueOrder(x, 6, 5, 5, 0, 1, 2, 3, 4);
        CHECKS.due("alike of six", x.alike(1, 0), true);
        CHECKS.due("a ring and two triangles", x.alike(3, 4), false);
    }

    private static void notAlike() {
        CHECKS.sentence("NONE if they are not alike");
        CountedLibrary x = Checks.of(cellOf("P", 3, "a&b") + cellOf("Q", 3, "a|b") + cellOf("R", 2, "a&b") + cellOf("S", 4, "a&b") + cellOf("N", 0, "1"));
        dueOrder(x, 0, 1, NONE, NONE, NONE);
        dueOrder(x, 0, 2, NONE, NONE, NONE);
        dueOrder(x, 0, 3, NONE, NONE, NONE);
        dueOrder(x, 0, 4, NONE, NONE, NONE);
        dueOrder(x, 2, 0, NONE, NONE);
        dueOrder(x, 3, 0, NONE, NONE, NONE, NONE);
        // An order found before does not shine through.
        dueOrder(x, 0, 0, 0, 1, 2);
        dueOrder(x, 0, 1, NONE, NONE, NONE);
    }

    private static void orderOutside() {
        CHECKS.sentence("order: IndexOutOfBoundsException: there is no such cell, input");
        CountedLibrary x = Checks.of(Checks.LIBRARY);
        CHECKS.due("the last input", x.order(0, 1, 1), 0);
        CHECKS.due("the last cells", x.order(1, 1, 1), 1);
        for (int n : OUTSIDE) {
            CHECKS.refused("order " + n, Checks.INDEX, library -> library.order(n, 0, 0));
            CHECKS.refused("order with " + n, Checks.INDEX, library -> library.order(0, n, 0));
            CHECKS.refused("order at " + n, Checks.INDEX, library -> library.order(0, 1, n));
            CHECKS.refused("order of all " + n, Checks.INDEX, library -> library.order(n, n, n));
        }
        CountedLibrary few = Checks.of(cellOf("P", 1, "a") + cellOf("Q", 3, "a"));
        CHECKS.answers("input 0 of the one with few", NONE, () -> few.order(0, 1, 0));
        CHECKS.index("input 1, that the other one has", () -> few.order(0, 1, 1));
        CHECKS.answers("input 2 of the one with more", NONE, () -> few.order(1, 0, 2));
        CHECKS.index("input 3 of the one with more", () -> few.order(1, 0, 3));
    }

    private static void dueFamily(CountedLibrary x, int head, int... want) {
        for (int i = 0; i < want.length; i++) {
            CHECKS.due("family of " + head + ", " + i, x.family(head, i), want[i]);
        }
        CHECKS.due("behind the family of " + head, x.family(head, want.length), NONE);
    }

    private static void byDrive() {
        CHECKS.sentence("THE FAMILY of a cell are all cells that are alike with it (it is one), by drive");
        CountedLibrary x = Checks.of("cell A{in a;out Y=a;drive 999999;}cell B{in a;out Y=a;drive 10;}cell C{in a;out Y=!a;drive 1;}"
            + "cell D{in a;out Y=a;drive 9;}cell E{in a;out Y=a;}cell F{in a;out Y=a;drive 000001;}cell G{in a;out Y=a;drive 0;}");
        int[] heads = {0, 1, 3, 4, 5, 6};
        for (int head : heads) {
            dueFamily(x, head, 4, 6, 5, 3, 1, 0);
        }
        dueFamily(x, 2, 2);
    }

    private static void byName() {
        CHECKS.sentence("then by name (character by character, a beginning before what goes on)");
        CountedLibrary x = Checks.of("cell BC { in a ; out Y = !a ; drive 2 ; } cell B { in z ; out Y = !z ; drive 2 ; }"
            + "cell BUF { in a ; out Y = a ; } cell A9 { in a ; out Y = !a ; drive 10 ; } cell Z { in a ; out Y = a ^ 1 ; drive 1 ; }"
            + "cell _a { in a ; out Y = !a ; drive 2 ; } cell b { in a ; out Y = !a ; drive 2 ; } cell B0 { in a ; out Y = !a ; drive 2 ; }"
            + "cell NONE { in a ; out Y = !a ; } cell BCDEFGHI { in a ; out Y = !a ; drive 2 ; }");
        int[] heads = {0, 1, 3, 4, 5, 6, 7, 8, 9};
        for (int head : heads) {
            dueFamily(x, head, 8, 4, 1, 7, 0, 9, 5, 6, 3);
        }
        inOrder("A", "A0", "A00", "A1", "AA", "A_", "Aa", "B", "Z", "_", "a", "z");
        inOrder("aaaaaaa", "aaaaaaa0", "aaaaaaaA", "aaaaaaa_", "aaaaaaaa", "aaaaaaab", "aaaaaaaz", "aaaaaab", "zzzzzzz", "zzzzzzzz");
        inOrder("abc", "abcd", "abd", "ac", "b");
    }

    /** Whatever their order in the text, they stand in the family by their names. */
    private static void inOrder(String... names) {
        StringBuilder rising = new StringBuilder();
        StringBuilder falling = new StringBuilder();
        int[] last = new int[names.length];
        int[] first = new int[names.length];
        for (int i = 0; i < names.length; i++) {
            rising.append("cell ").append(names[i]).append("{out Y=1;}");
            falling.append("cell ").append(names[names.length - 1 - i]).append("{out Y=1;}");
            first[i] = i;
            last[i] = names.length - 1 - i;
        }
        dueFamily(Checks.of(rising.toString()), 0, first);
        dueFamily(Checks.of(falling.toString()), 0, last);
    }

    private static void familyOfOne() {
        CHECKS.sentence("all cells that are alike with it (it is one)");
        CountedLibrary x = Checks.of("cell P{in a;out Y=a;}cell Q{in a;out Y=!a;}");
        dueFamily(x, 0, 0);
        dueFamily(x, 1, 1);
        CountedLibrary alone = Checks.of("cell P{out Y=1;}");
        dueFamily(alone, 0, 0);
    }

    private static CountedLibrary twelve() {
        StringBuilder text = new StringBuilder();
        for (int i = 0; i < 12; i++) {
            text.append("cell c").append((char) ('a' + i)).append("{in a;out Y=a;drive ").append(12 - i)
                .append(";load ").append(i).append(";area ").append(i + 1).append(";}");
        }
        return Checks.of(text.toString());
    }

    private static void familyOfTwelve() {
        CHECKS.sentence("THE FAMILY of a cell, 12 cells");
        CountedLibrary x = twelve();
        int[] heads = {0, 3, 11};
        for (int head : heads) {
            dueFamily(x, head, 11, 10, 9, 8, 7, 6, 5, 4, 3, 2, 1, 0);
            for (int i = 0; i < 12; i++) {
                CHECKS.due("best of twelve for " + i, x.best(head, i), i);
            }
            CHECKS.due("none of twelve", x.best(head, 12), NONE);
        }
    }

    private static void notSoMany() {
        CHECKS.sentence("Cell i of the FAMILY of a cell, from 0; NONE if it has not so many");
        CountedLibrary x = Checks.of(Checks.LIBRARY);
        CHECKS.due("the first", x.family(0, 0), 1);
        CHECKS.due("the last", x.family(0, 1), 0);
        int[] behind = {2, 3, 11, 12, 13, 100, Integer.MAX_VALUE};
        for (int i : behind) {
            CHECKS.due("cell " + i, x.family(0, i), NONE);
            CHECKS.due("cell " + i + " of the family of another", x.family(1, i), NONE);
        }
    }

    private static void familyOutside() {
        CHECKS.sentence("family: IndexOutOfBoundsException: also i is below 0");
        int[] below = {-1, -2, Integer.MIN_VALUE};
        for (int i : below) {
            CHECKS.refused("cell " + i + " of a family", Checks.INDEX, library -> library.family(0, i));
            CHECKS.refused("cell " + i + " of no family", Checks.INDEX, library -> library.family(2, i));
        }
        for (int n : OUTSIDE) {
            CHECKS.refused("family of " + n, Checks.INDEX, library -> library.family(n, 0));
            CHECKS.refused("family of " + n + ", not so many", Checks.INDEX, library -> library.family(n, 50));
        }
    }

    private static void loadGreatEnough() {
        CHECKS.sentence("Of the family those whose load is at least so great");
        CountedLibrary x = Checks.of("cell X8 { in a ; out Y = !a ; drive 8 ; load 80 ; area 9 ; } cell X1 { in a ; out Y = !a ; drive 1 ; load 10 ; area 2 ; }"
            + "cell X4 { in a ; out Y = !a ; drive 4 ; load 40 ; area 5 ; } cell X2 { in a ; out Y = !a ; drive 2 ; load 20 ; area 5 ; }"
            + "cell BUF { in a ; out Y = a ; load 999999 ; } cell X3 { in a ; out Y = !a ; drive 2 ; load 30 ; area 5 ; }"
            + "cell X9 { in a ; out Y = !a ; drive 9 ; load 5 ; area 1 ; }");
        int[][] due = {{0, 6}, {1, 6}, {4, 6}, {5, 6}, {6, 1}, {10, 1}, {11, 3}, {20, 3}, {21, 5}, {30, 5}, {31, 2}, {40, 2}, {41, 0},
            {80, 0}, {81, NONE}};
        int[] heads = {0, 1, 2, 3, 5, 6};
        for (int[] row : due) {
            for (int head : heads) {
                CHECKS.due("best of " + head + " for " + row[0], x.best(head, row[0]), row[1]);
            }
        }
    }

    private static void leastArea() {
        CHECKS.sentence("the one with the least area");
        CountedLibrary x = Checks.of("cell P{in a;out Y=a;area 999999;drive 1;}cell Q{in a;out Y=a;area 999998;drive 2;}cell R{in a;out Y=!a;area 1;}"
            + "cell S{in a;out Y=a;area 999998;drive 3;}");
        CHECKS.due("one less", x.best(0, 0), 1);
        CHECKS.due("of another of the family", x.best(3, 0), 1);
        CHECKS.due("of another family", x.best(2, 0), 2);
        CountedLibrary without = Checks.of("cell P{in a;out Y=a;area 1;}cell Q{in a;out Y=a;drive 9;}");
        CHECKS.due("an area that is not told is 0", without.best(0, 0), 1);
    }

    private static void firstOfTheFamily() {
        CHECKS.sentence("(of several the first of the family)");
        CountedLibrary x = Checks.of("cell D{in a;out Y=a;area 5;drive 2;load 9;}cell C{in a;out Y=a;area 5;drive 1;load 9;}"
            + "cell B{in a;out Y=a;area 5;drive 1;load 9;}cell A{in a;out Y=a;area 5;drive 3;load 9;}cell E{in a;out Y=a;area 5;load 8;}");
        int[] heads = {0, 1, 2, 3, 4};
        for (int head : heads) {
            CHECKS.due("all of them do", x.best(head, 8), 4);
            CHECKS.due("all but the first of the family", x.best(head, 9), 2);
        }
    }

    private static void noneIsGreatEnough() {
        CHECKS.sentence("best: .. NONE");
        CountedLibrary x = Checks.of("cell P{in a;out Y=a;load 999999;}cell Q{in a;out Y=!a;}");
        CHECKS.due("the greatest load", x.best(0, 999999), 0);
        CHECKS.due("one more", x.best(0, 1000000), NONE);
        CHECKS.due("the greatest number", x.best(0, Integer.MAX_VALUE), NONE);
        CHECKS.due("a load that is not told is 0", x.best(1, 0), 1);
        CHECKS.due("more than 0", x.best(1, 1), NONE);
    }

    private static void bestOutside() {
        CHECKS.sentence("best: IllegalArgumentException: load is below 0");
        CountedLibrary x = Checks.of(Checks.LIBRARY);
        CHECKS.due("load 0", x.best(0, 0), 0);
        int[] below = {-1, -2, Integer.MIN_VALUE};
        for (int load : below) {
            CHECKS.refused("load " + load, Checks.ARGUMENT, library -> library.best(0, load));
            CHECKS.refused("load " + load + " of the last cell", Checks.ARGUMENT, library -> library.best(1, load));
        }
        for (int n : OUTSIDE) {
            CHECKS.refused("best of " + n, Checks.INDEX, library -> library.best(n, 0));
        }
    }

    private static void bestNamedFirst() {
        CHECKS.sentence("best: the one named first when several would do");
        int[] below = {-1, -2, Integer.MIN_VALUE};
        for (int load : below) {
            for (int n : OUTSIDE) {
                CHECKS.refused("best of " + n + " for " + load, Checks.INDEX, library -> library.best(n, load));
            }
        }
    }
}
