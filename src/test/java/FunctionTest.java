/** Promises 6 and 7: truth and sense. */
final class FunctionTest {
    private static final Checks CHECKS = new Checks();

    public static void main(String[] args) {
        truths();
        sixInputs();
        senses();
        outside();
        CHECKS.finish();
    }

    private static long truthOf(String inputs, String exp) {
        StringBuilder text = new StringBuilder("cell c { ");
        for (int i = 0; i < inputs.length(); i++) {
            text.append("in ").append(inputs.charAt(i)).append(" ; ");
        }
        return Checks.of(text + "out Y = " + exp + " ; }").truth(0, 0);
    }

    private static void truths() {
        CHECKS.due("0 of none", truthOf("", "0"), 0);
        CHECKS.due("1 of none", truthOf("", "1"), 1);
        CHECKS.due("!1 of none", truthOf("", "!1"), 0);
        CHECKS.due("a", truthOf("a", "a"), 2);
        CHECKS.due("!a", truthOf("a", "!a"), 1);
        CHECKS.due("1 of one", truthOf("a", "1"), 3);
        CHECKS.due("a of two", truthOf("ab", "a"), 10);
        CHECKS.due("b of two", truthOf("ab", "b"), 12);
        CHECKS.due("and", truthOf("ab", "a & b"), 8);
        CHECKS.due("or", truthOf("ab", "a | b"), 14);
        CHECKS.due("xor", truthOf("ab", "a ^ b"), 6);
        CHECKS.due("nand", truthOf("ab", "!(a&b)"), 7);
        CHECKS.due("not binds closest", truthOf("ab", "!a&b"), 4);
        CHECKS.due("and before xor", truthOf("abc", "a ^ b & c"), 0x6A);
        CHECKS.due("and before xor, on the left", truthOf("abc", "a & b ^ c"), 0x78);
        CHECKS.due("xor before or", truthOf("abc", "a | b ^ c"), 0xBE);
        CHECKS.due("xor before or, on the left", truthOf("abc", "a ^ b | c"), 0xF6);
        CHECKS.due("brackets first", truthOf("abc", "(a | b) ^ c"), 0x1E);
        CHECKS.due("all at once", truthOf("abc", "!a&b^!(c|!a)|a&!!c^1&0"), 0xEE);
        CHECKS.due("xor of three", truthOf("abc", "a^b^c"), 0x96);
        CHECKS.due("nots in brackets", truthOf("a", "!(!(!(!a)))"), 2);
        CHECKS.due("a not before brackets turns all", truthOf("ab", "!(a|b)|b"), 13);
        CHECKS.due("seven nots", truthOf("a", "!!!!!!!a"), 1);
        CHECKS.due("16 brackets", truthOf("ab", "a&" + "!(".repeat(16) + "b|0" + ")".repeat(16)), 8);
        CellLibrary x = Checks.of("cell c { in a ; out X = a ; out Y = !a ; out Z = 1 ; } cell d { out X = 1 ; }");
        CHECKS.due("first output", x.truth(0, 0), 2);
        CHECKS.due("second output", x.truth(0, 1), 1);
        CHECKS.due("third output", x.truth(0, 2), 3);
        CHECKS.due("second cell", x.truth(1, 0), 1);
    }

    private static void sixInputs() {
        String inputs = "abcdef";
        for (int k = 0; k < 6; k++) {
            long due = 0;
            for (int s = 0; s < 64; s++) {
                due |= (long) (s >> k & 1) << s;
            }
            CHECKS.due("input " + k, truthOf(inputs, inputs.substring(k, k + 1)), due);
        }
        CHECKS.due("1 of six", truthOf(inputs, "1"), -1L);
        CHECKS.due("0 of six", truthOf(inputs, "0"), 0);
        CHECKS.due("all of six", truthOf(inputs, "a&b&c&d&e&f"), Long.MIN_VALUE);
        CHECKS.due("1 of five", truthOf("abcde", "1"), 0xFFFFFFFFL);
        CHECKS.due("!e of five", truthOf("abcde", "!e"), 0xFFFFL);
    }

    private static void senses() {
        CellLibrary x = Checks.of("cell c { in a ; in b ; in s ; out X = !s & a | s & b ; out Y = a & !b ; out Z = 1 ; }"
            + "cell six { in a ; in b ; in c ; in d ; in e ; in f ; out Y = f & !a | f & e ^ e ; out Z = f ^ f ; }");
        int[][] due = {{1, 1, 2}, {1, -1, 2}, {0, 2, 2}};
        for (int input = 0; input < 3; input++) {
            for (int output = 0; output < 3; output++) {
                CHECKS.due("sense " + input + " " + output, x.sense(0, input, output), due[input][output]);
            }
        }
        int[] dueOfSix = {-1, 2, 2, 2, 1, 0};
        for (int input = 0; input < 6; input++) {
            CHECKS.due("sense of six " + input, x.sense(1, input, 0), dueOfSix[input]);
            CHECKS.due("sense of six, unchanged " + input, x.sense(1, input, 1), 2);
        }
    }

    private static void outside() {
        CellLibrary x = Checks.of("cell c { in a ; in b ; out X = a ; } cell d { out X = 0 ; out Y = 0 ; }");
        int[] wrong = {-1, Integer.MIN_VALUE, Integer.MAX_VALUE, 3};
        for (int n : wrong) {
            CHECKS.index("truth of cell " + n, () -> x.truth(n, 0));
            CHECKS.index("truth of output " + n, () -> x.truth(0, n));
            CHECKS.index("sense of cell " + n, () -> x.sense(n, 0, 0));
            CHECKS.index("sense of input " + n, () -> x.sense(0, n, 0));
            CHECKS.index("sense of output " + n, () -> x.sense(0, 0, n));
        }
        CHECKS.index("output 1 of 1", () -> x.truth(0, 1));
        CHECKS.index("cell 2 of 2", () -> x.truth(2, 0));
        CHECKS.index("input 2 of 2", () -> x.sense(0, 2, 0));
        CHECKS.index("sense of output 1 of 1", () -> x.sense(0, 0, 1));
        CHECKS.index("sense without inputs", () -> x.sense(1, 0, 0));
    }
}
