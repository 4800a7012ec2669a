/** Promises 6 and 7: truth and sense; and how many states there are. */
final class FunctionTest {
    private static final Checks CHECKS = new Checks();
    private static final String NAMES = "abcdef";

    public static void main(String[] args) {
        precedence();
        statesOfInputs();
        statesThatThereAreNot();
        noInputs();
        sixInputs();
        eachState();
        truthOfEachOutput();
        senseOfTwo();
        senseOfOneState();
        senseOfBoth();
        senseOfOthers();
        agrees();
        truthOutside();
        senseOutside();
        CHECKS.finish();
    }

    private static String inputs(int many) {
        StringBuilder text = new StringBuilder();
        for (int i = 0; i < many; i++) {
            text.append("in ").append(NAMES.charAt(i)).append(" ; ");
        }
        return text.toString();
    }

    private static CountedLibrary cell(int inputs, String exp) {
        return Checks.of("cell c { " + inputs(inputs) + "out Y = " + exp + " ; }");
    }

    private static void truth(int inputs, String exp, long want) {
        CHECKS.due("truth of " + exp + " of " + inputs, cell(inputs, exp).truth(0, 0), want);
    }

    /** An expression that is 1 in one state alone. */
    private static String minterm(int inputs, int state) {
        StringBuilder text = new StringBuilder("1");
        for (int k = 0; k < inputs; k++) {
            text.append((state >> k & 1) == 1 ? "&" : "&!").append(NAMES.charAt(k));
        }
        return text.toString();
    }

    private static void precedence() {
        CHECKS.sentence("exp: xor { | xor }. xor: and { ^ and }. and: not { & not }. not: ! not, or a primary.");
        truth(1, "a", 2);
        truth(1, "!a", 1);
        truth(2, "a", 10);
        truth(2, "b", 12);
        truth(2, "a & b", 8);
        truth(2, "a | b", 14);
        truth(2, "a ^ b", 6);
        truth(2, "!(a&b)", 7);
        truth(2, "!a&b", 4);
        truth(3, "a ^ b & c", 0x6A);
        truth(3, "a & b ^ c", 0x78);
        truth(3, "a | b ^ c", 0xBE);
        truth(3, "a ^ b | c", 0xF6);
        truth(3, "(a | b) ^ c", 0x1E);
        truth(3, "!a&b^!(c|!a)|a&!!c^1&0", 0xEE);
        truth(3, "a^b^c", 0x96);
        truth(1, "!(!(!(!a)))", 2);
        truth(2, "!(a|b)|b", 13);
        truth(1, "!!!!!!!a", 1);
    }

    private static void statesOfInputs() {
        CHECKS.sentence("STATE s of n inputs, 0 .. 2 ^ n - 1: input k has bit k of s");
        for (int n = 1; n <= 6; n++) {
            for (int k = 0; k < n; k++) {
                long due = 0;
                for (int s = 0; s < 1 << n; s++) {
                    due |= (long) (s >> k & 1) << s;
                }
                truth(n, String.valueOf(NAMES.charAt(k)), due);
            }
        }
    }

    private static void statesThatThereAreNot() {
        CHECKS.sentence("(n up to 6; bits of states that there are not are 0)");
        long[] all = {1, 3, 0xF, 0xFF, 0xFFFF, 0xFFFFFFFFL, -1L};
        for (int n = 0; n <= 6; n++) {
            truth(n, "1", all[n]);
            truth(n, "!0", all[n]);
            truth(n, "0", 0);
            truth(n, "!1", 0);
            truth(n, "!(" + minterm(n, 0) + ")", all[n] - 1);
        }
        truth(5, "!e", 0xFFFFL);
        truth(1, "!a | 1", 3);
    }

    private static void noInputs() {
        CHECKS.sentence("STATE s of n inputs: no inputs");
        truth(0, "0", 0);
        truth(0, "1", 1);
        truth(0, "!1", 0);
        truth(0, "1 ^ 1", 0);
        truth(0, "0 | 1 & 1", 1);
        CountedLibrary x = cell(0, "1");
        CHECKS.due("inputs", x.cell(0, 0), 0);
        CHECKS.answers("its only state", 0, () -> x.power(0, 0));
        CHECKS.index("another state", () -> x.power(0, 1));
        CHECKS.index("sense without inputs", () -> x.sense(0, 0, 0));
    }

    private static void sixInputs() {
        CHECKS.sentence("(n up to 6");
        truth(6, "a&b&c&d&e&f", Long.MIN_VALUE);
        truth(6, "!(a&b&c&d&e&f)", Long.MAX_VALUE);
        truth(6, "!a&!b&!c&!d&!e&!f", 1);
        truth(6, "f", 0xFFFFFFFF00000000L);
        truth(6, "!f", 0xFFFFFFFFL);
    }

    private static void eachState() {
        CHECKS.sentence("A TRUTH has bit s for the output's value at state s");
        for (int n = 0; n <= 6; n++) {
            for (int s = 0; s < 1 << n; s++) {
                truth(n, minterm(n, s), 1L << s);
            }
        }
    }

    private static void truthOfEachOutput() {
        CHECKS.sentence("The TRUTH of an output.");
        CountedLibrary x = Checks.of("cell c { in a ; out X = a ; out Y = !a ; out Z = 1 ; } cell d { out X = 1 ; }");
        CHECKS.due("first output", x.truth(0, 0), 2);
        CHECKS.due("second output", x.truth(0, 1), 1);
        CHECKS.due("third output", x.truth(0, 2), 3);
        CHECKS.due("second cell", x.truth(1, 0), 1);
        CHECKS.index("fourth output", () -> x.truth(0, 3));
        CHECKS.index("second output of the second cell", () -> x.truth(1, 1));
    }

    private static void senseOfTwo() {
        CHECKS.sentence("2 if the output does not change with the input alone in any state");
        for (int n = 1; n <= 6; n++) {
            for (int k = 0; k < n; k++) {
                String[] constant = {"0", "1", NAMES.charAt(k) + "^" + NAMES.charAt(k), NAMES.charAt(k) + "|!" + NAMES.charAt(k)};
                for (String exp : constant) {
                    CHECKS.due("sense of " + k + " of " + n + " in " + exp, cell(n, exp).sense(0, k, 0), 2);
                }
                String other = String.valueOf(NAMES.charAt((k + 1) % n));
                CHECKS.due("sense of " + k + " of " + n + " in " + other, cell(n, other).sense(0, k, 0), n == 1 ? 1 : 2);
            }
        }
    }

    private static void senseOfOneState() {
        CHECKS.sentence("1 (pos) if, whenever it does, it rises with it; -1 (neg) if it falls with it");
        for (int n = 1; n <= 6; n++) {
            int states = 1 << n;
            int step = n < 5 ? 1 : 7;
            for (int s = 0; s < states; s += step) {
                CountedLibrary one = cell(n, minterm(n, s));
                CountedLibrary allButOne = cell(n, "!(" + minterm(n, s) + ")");
                for (int k = 0; k < n; k++) {
                    int due = (s >> k & 1) == 1 ? 1 : -1;
                    CHECKS.due("sense of " + k + " of " + n + ", 1 in state " + s, one.sense(0, k, 0), due);
                    CHECKS.due("sense of " + k + " of " + n + ", 0 in state " + s, allButOne.sense(0, k, 0), -due);
                }
            }
        }
        CountedLibrary six = cell(6, minterm(6, 63) + "|" + minterm(6, 31));
        CHECKS.due("the last input, from the last states", six.sense(0, 5, 0), 2);
        CHECKS.due("the first input, from the last states", six.sense(0, 0, 0), 1);
    }

    private static void senseOfBoth() {
        CHECKS.sentence("0 else");
        for (int n = 2; n <= 6; n++) {
            for (int k = 0; k < n; k++) {
                int other = (k + 1) % n;
                // It rises in the state where all others are 0, falls in that where all others are 1, and is still in all others.
                String exp = minterm(n, 1 << k) + "|" + minterm(n, (1 << n) - 1 - (1 << k));
                CHECKS.due("sense of " + k + " of " + n + " in " + exp, cell(n, exp).sense(0, k, 0), 0);
                String xor = NAMES.charAt(k) + "^" + NAMES.charAt(other);
                CHECKS.due("sense of " + k + " of " + n + " in " + xor, cell(n, xor).sense(0, k, 0), 0);
            }
        }
    }

    private static void senseOfOthers() {
        CHECKS.sentence("THE SENSE of an input and output");
        CountedLibrary x = Checks.of("cell c { in a ; in b ; in s ; out X = !s & a | s & b ; out Y = a & !b ; out Z = 1 ; }"
            + "cell six { in a ; in b ; in c ; in d ; in e ; in f ; out Y = f & !a | f & e ^ e ; out Z = f ^ f ; }");
        int[][] due = {{1, 1, 2}, {1, -1, 2}, {0, 2, 2}};
        for (int input = 0; input < 3; input++) {
            for (int output = 0; output < 3; output++) {
                CHECKS.due("sense " + input + " " + output, x.sense(0, input, output), due[input][output]);
            }
        }
        int[] dueOfSix = {-1, 2, 2, 2, 1, 0};
        for (int input = 0; input < 6; input++) {
            CHECKS.due("sense of six " + input, x.sense(1, input, 0), dueOfSix[input]);
            CHECKS.due("sense of six, unchanged " + input, x.sense(1, input, 1), 2);
        }
    }

    private static void agrees() {
        CHECKS.sentence("An arc AGREES if its S is both, or it is pos and the sense is 1 or 2, or neg and it is -1 or 2.");
        String[] told = {"pos", "neg", "both"};
        String[] functions = {"a", "!a", "a ^ b", "b"};
        int[] senses = {1, -1, 0, 2};
        int[][] due = {{1, 0, 0, 1}, {0, 1, 0, 1}, {1, 1, 1, 1}};
        for (int s = 0; s < told.length; s++) {
            for (int f = 0; f < functions.length; f++) {
                CountedLibrary x = Checks.of("table t : 1 / 1 / 1 ; cell c { in a ; in b ; out Y = " + functions[f]
                    + " ; arc a Y " + told[s] + " t t ; }");
                CHECKS.due("the sense of " + functions[f], x.sense(0, 0, 0), senses[f]);
                CHECKS.due(told[s] + " agrees with " + functions[f], x.arc(0, 0, 5), due[s][f]);
                CHECKS.due(told[s] + " does not agree with " + functions[f], x.cell(0, 6), 1 - due[s][f]);
            }
        }
    }

    private static void truthOutside() {
        CHECKS.sentence("truth: IndexOutOfBoundsException: there is no such cell, output");
        CountedLibrary x = Checks.of(Checks.LIBRARY);
        CHECKS.due("the last output", x.truth(0, 1), 12);
        CHECKS.due("the last cell", x.truth(1, 0), 4);
        int[] cells = {-1, 2, 3, 11, 12, Integer.MIN_VALUE, Integer.MAX_VALUE};
        for (int n : cells) {
            CHECKS.refused("truth of cell " + n, Checks.INDEX, library -> library.truth(n, 0));
        }
        int[] outputs = {-1, 2, 3, Integer.MIN_VALUE, Integer.MAX_VALUE};
        for (int n : outputs) {
            CHECKS.refused("truth of output " + n, Checks.INDEX, library -> library.truth(0, n));
        }
        CHECKS.refused("output 1 of 1", Checks.INDEX, library -> library.truth(1, 1));
    }

    private static void senseOutside() {
        CHECKS.sentence("sense: IndexOutOfBoundsException: there is no such cell, output, input");
        CountedLibrary x = Checks.of(Checks.LIBRARY);
        CHECKS.due("the last input and output", x.sense(0, 1, 1), 1);
        CHECKS.due("the last cell", x.sense(1, 1, 0), 1);
        int[] outside = {-1, 2, 3, 6, Integer.MIN_VALUE, Integer.MAX_VALUE};
        for (int n : outside) {
            CHECKS.refused("sense of cell " + n, Checks.INDEX, library -> library.sense(n, 0, 0));
            CHECKS.refused("sense of input " + n, Checks.INDEX, library -> library.sense(0, n, 0));
            CHECKS.refused("sense of output " + n, Checks.INDEX, library -> library.sense(0, 0, n));
        }
        CHECKS.refused("sense of output 1 of 1", Checks.INDEX, library -> library.sense(1, 0, 1));
        CHECKS.refused("a pin is no input", Checks.INDEX, library -> library.sense(1, 2, 0));
    }
}
