/** Promises 5, 8, 10 and 15: cell, arc, power, letter. */
final class CellTest {
    private static final Checks CHECKS = new Checks();
    private static final int NONE = CellLibrary.NONE;
    private static final int[] ENDS = {Integer.MIN_VALUE, -2, -1, 100, Integer.MAX_VALUE};
    private static final String TEXT = "table first : 1 / 1 / 1 ; table second : 1 / 1 / 2 ;\n"
        + "cell MIX { in a ; in bee ; in c ; drive 2 ; load 999999 ; area 40 ; out Y = a & !bee ; out Z_9 = a ^ bee ;"
        + " arc a Y pos first second ; arc a Z_9 pos second first ; arc bee Y pos first first ;"
        + " arc bee Z_9 both first first ; arc c Y neg first first ; arc c Z_9 pos first first ; power 1 2 3 4 5 6 7 8 ; }\n"
        + "cell eightchr { out O = 0 ; power 7 ; }"
        + "cell PLAIN { in a ; in b ; out Q = a & b ; arc a Q neg first first ; arc b Q pos first first ; }";

    public static void main(String[] args) {
        cell();
        fullCell();
        placeOfName();
        cellOutside();
        arc();
        tablesByNumber();
        arcOutside();
        power();
        statesOfPower();
        powerOutside();
        letter();
        behindTheName();
        letterOutside();
        CHECKS.finish();
    }

    private static void cell() {
        CHECKS.sentence("what = 0 inputs, 1 outputs, 2 arcs, 3 drive, 4 load, 5 area, 6 how many of its arcs do not agree, 7 the place of its name");
        CountedLibrary x = Checks.of(TEXT);
        int[][] due = {
            {3, 2, 6, 2, 999999, 40, 2, TEXT.indexOf("MIX")},
            {0, 1, 0, 0, 0, 0, 0, TEXT.indexOf("eightchr")},
            {2, 1, 2, 0, 0, 0, 1, TEXT.indexOf("PLAIN")},
        };
        for (int k = 0; k < due.length; k++) {
            for (int what = 0; what < 8; what++) {
                CHECKS.due("cell " + k + " what " + what, x.cell(k, what), due[k][what]);
            }
        }
    }

    private static void fullCell() {
        CHECKS.sentence("6 inputs, 3 outputs, 10 arcs of a cell");
        StringBuilder text = new StringBuilder("table t:1/1/1;cell c{in a;in b;in d;in e;in f;in g;out X=1;out Y=a;out Z=g;");
        for (int i = 0; i < 10; i++) {
            text.append("arc ").append("abdefg".charAt(i % 6)).append(i < 6 ? " Y" : " Z").append(" neg t t;");
        }
        CountedLibrary x = Checks.of(text.append("drive 999999;load 999999;area 999999;}").toString());
        // Of all these neg arcs only that of a to Y does not agree: the others have a sense of 2.
        int[] due = {6, 3, 10, 999999, 999999, 999999, 1, 19};
        for (int what = 0; what < 8; what++) {
            CHECKS.due("what " + what + " of a full cell", x.cell(0, what), due[what]);
        }
        CHECKS.due("the last arc's input", x.arc(0, 9, 0), 3);
        CHECKS.index("an arc behind the last", () -> x.arc(0, 10, 0));
        CHECKS.spelled(x, 0, 8, "Z");
        CHECKS.index("a pin behind the last", () -> x.letter(0, 9, 0));
        CHECKS.due("the last state", x.power(0, 63), 0);
        CHECKS.index("a state behind the last", () -> x.power(0, 64));
    }

    private static void placeOfName() {
        CHECKS.sentence("7 the place of its name");
        int[] blanks = {1, 2, 100, 1380};
        for (int many : blanks) {
            CountedLibrary x = Checks.of("cell" + " ".repeat(many) + "c{out Y=1;}");
            CHECKS.due("a name behind " + many + " blanks", x.cell(0, 7), 4 + many);
        }
    }

    private static void cellOutside() {
        CHECKS.sentence("cell: IndexOutOfBoundsException: there is no such cell or what");
        CountedLibrary x = Checks.of(Checks.LIBRARY);
        CHECKS.due("the last cell, the last what", x.cell(1, 7), Checks.LIBRARY.indexOf("B{"));
        CHECKS.refused("cell 2 of 2", Checks.INDEX, library -> library.cell(2, 0));
        CHECKS.refused("what 8", Checks.INDEX, library -> library.cell(0, 8));
        CHECKS.refused("cell 12", Checks.INDEX, library -> library.cell(12, 0));
        for (int n : ENDS) {
            CHECKS.refused("cell " + n, Checks.INDEX, library -> library.cell(n, 0));
            CHECKS.refused("what " + n, Checks.INDEX, library -> library.cell(0, n));
            CHECKS.refused("cell and what " + n, Checks.INDEX, library -> library.cell(n, n));
        }
    }

    private static void arc() {
        CHECKS.sentence("what = 0 its input, 1 its output, 2 its S (1 pos, -1 neg, 0 both), 3, 4 its tables, 5 whether it agrees");
        CountedLibrary x = Checks.of(TEXT);
        int[][] due = {{0, 0, 1, 0, 1, 1}, {0, 1, 1, 1, 0, 0}, {1, 0, 1, 0, 0, 0},
            {1, 1, 0, 0, 0, 1}, {2, 0, -1, 0, 0, 1}, {2, 1, 1, 0, 0, 1}};
        for (int k = 0; k < due.length; k++) {
            for (int what = 0; what < 6; what++) {
                CHECKS.due("arc " + k + " what " + what, x.arc(0, k, what), due[k][what]);
            }
        }
        CHECKS.due("neg that rises", x.arc(2, 0, 5), 0);
        CHECKS.due("pos that rises", x.arc(2, 1, 5), 1);
    }

    private static void tablesByNumber() {
        CHECKS.sentence("its tables (by their numbers)");
        StringBuilder text = new StringBuilder();
        for (int i = 0; i < 12; i++) {
            text.append("table t").append(i).append(":1/1/").append(100 + i).append(';');
        }
        text.append("cell c{in a;in b;in d;in e;in f;in g;out Y=1;out Z=1;");
        for (int i = 0; i < 10; i++) {
            text.append("arc ").append("abdefg".charAt(i % 6)).append(i < 6 ? " Y" : " Z").append(" both t").append(i).append(" t")
                .append(11 - i).append(';');
        }
        CountedLibrary x = Checks.of(text + "}");
        for (int i = 0; i < 10; i++) {
            CHECKS.due("R of arc " + i, x.arc(0, i, 3), i);
            CHECKS.due("F of arc " + i, x.arc(0, i, 4), 11 - i);
            CHECKS.due("the delay by R of arc " + i, x.delay(0, i, 0, 0, true), 100 + i);
            CHECKS.due("the delay by F of arc " + i, x.delay(0, i, 0, 0, false), 111 - i);
        }
    }

    private static void arcOutside() {
        CHECKS.sentence("arc: IndexOutOfBoundsException: there is no such cell, arc or what");
        CountedLibrary x = Checks.of(Checks.LIBRARY);
        CHECKS.due("the last arc, the last what", x.arc(0, 1, 5), 0);
        CHECKS.refused("arc 2 of 2", Checks.INDEX, library -> library.arc(0, 2, 0));
        CHECKS.refused("what 6", Checks.INDEX, library -> library.arc(0, 0, 6));
        CHECKS.refused("cell 2 of 2", Checks.INDEX, library -> library.arc(2, 0, 0));
        CHECKS.refused("arc of a cell without", Checks.INDEX, library -> library.arc(1, 0, 0));
        for (int n : ENDS) {
            CHECKS.refused("arc of cell " + n, Checks.INDEX, library -> library.arc(n, 0, 0));
            CHECKS.refused("arc " + n, Checks.INDEX, library -> library.arc(0, n, 0));
            CHECKS.refused("arc what " + n, Checks.INDEX, library -> library.arc(0, 0, n));
        }
    }

    private static void power() {
        CHECKS.sentence("A cell's power in a state; 0 if none was told.");
        CountedLibrary x = Checks.of(TEXT);
        for (int s = 0; s < 8; s++) {
            CHECKS.due("power in state " + s, x.power(0, s), s + 1);
        }
        CHECKS.due("power without inputs", x.power(1, 0), 7);
        for (int s = 0; s < 4; s++) {
            CHECKS.due("power not told, state " + s, x.power(2, s), 0);
        }
    }

    private static void statesOfPower() {
        CHECKS.sentence("there is no such state (of those that it was told for; without power: of its inputs)");
        StringBuilder inputs = new StringBuilder();
        for (int n = 0; n <= 6; n++) {
            int states = 1 << n;
            StringBuilder powers = new StringBuilder("power");
            for (int s = 0; s < states; s++) {
                powers.append(' ').append(999999 - s);
            }
            CountedLibrary told = Checks.of("cell c{" + inputs + powers + ";out Y=1;}");
            CountedLibrary toldBehind = Checks.of("cell c{" + inputs + "out Y=1;" + powers + ";}");
            CountedLibrary not = Checks.of("cell c{" + inputs + "out Y=1;}");
            for (int s = 0; s < states; s++) {
                CHECKS.due("power told in state " + s + " of " + n, told.power(0, s), 999999 - s);
                CHECKS.due("power told behind the output", toldBehind.power(0, s), 999999 - s);
                CHECKS.due("power not told in state " + s + " of " + n, not.power(0, s), 0);
            }
            CHECKS.index("told, state " + states, () -> told.power(0, states));
            CHECKS.index("told behind, state " + states, () -> toldBehind.power(0, states));
            CHECKS.index("not told, state " + states, () -> not.power(0, states));
            CHECKS.index("told, state -1", () -> told.power(0, -1));
            CHECKS.index("not told, state -1", () -> not.power(0, -1));
            inputs.append("in ").append((char) ('a' + n)).append(';');
        }
    }

    private static void powerOutside() {
        CHECKS.sentence("power: IndexOutOfBoundsException: there is no such cell, state");
        CHECKS.refused("state 4 of 4, told", Checks.INDEX, library -> library.power(0, 4));
        CHECKS.refused("state 4 of 4, not told", Checks.INDEX, library -> library.power(1, 4));
        CHECKS.refused("power of cell 2 of 2", Checks.INDEX, library -> library.power(2, 0));
        int[] states = {-1, 5, 63, 64, Integer.MIN_VALUE, Integer.MAX_VALUE};
        for (int n : states) {
            CHECKS.refused("power in state " + n, Checks.INDEX, library -> library.power(0, n));
            CHECKS.refused("power not told in state " + n, Checks.INDEX, library -> library.power(1, n));
        }
        for (int n : ENDS) {
            CHECKS.refused("power of cell " + n, Checks.INDEX, library -> library.power(n, 0));
        }
    }

    private static void letter() {
        CHECKS.sentence("Character i of a cell's name (pin NONE), or of a pin's: inputs first, then outputs");
        CountedLibrary x = Checks.of(TEXT);
        CHECKS.spelled(x, 0, NONE, "MIX");
        CHECKS.spelled(x, 0, 0, "a");
        CHECKS.spelled(x, 0, 1, "bee");
        CHECKS.spelled(x, 0, 2, "c");
        CHECKS.spelled(x, 0, 3, "Y");
        CHECKS.spelled(x, 0, 4, "Z_9");
        CHECKS.spelled(x, 1, NONE, "eightchr");
        CHECKS.spelled(x, 1, 0, "O");
        CHECKS.spelled(x, 2, 2, "Q");
    }

    private static void behindTheName() {
        CHECKS.sentence("NONE behind it");
        int[] behind = {8, 9, 15, 16, 31, 32, 63, 64, 1 << 29, 1 << 30, Integer.MAX_VALUE};
        for (int length = 1; length <= 8; length++) {
            String name = "abcdefgh".substring(0, length);
            CountedLibrary x = Checks.of("cell " + name + "{in " + name + ";out O" + name.substring(1) + "=1;}");
            for (int pin = NONE; pin < 2; pin++) {
                CHECKS.due("the last character", x.letter(0, pin, length - 1), length > 1 || pin < 1 ? name.charAt(length - 1) : 'O');
                CHECKS.due("just behind", x.letter(0, pin, length), NONE);
                for (int i : behind) {
                    CHECKS.due("character " + i, x.letter(0, pin, i), NONE);
                }
            }
        }
    }

    private static void letterOutside() {
        CHECKS.sentence("letter: IndexOutOfBoundsException: also i is below 0");
        CountedLibrary x = Checks.of(Checks.LIBRARY);
        CHECKS.due("the last pin", x.letter(0, 3, 0), 'Z');
        CHECKS.due("the first character", x.letter(0, NONE, 0), 'A');
        CHECKS.refused("pin 4 of 4", Checks.INDEX, library -> library.letter(0, 4, 0));
        CHECKS.refused("pin 3 of 3", Checks.INDEX, library -> library.letter(1, 3, 0));
        CHECKS.refused("pin 9", Checks.INDEX, library -> library.letter(0, 9, 0));
        CHECKS.refused("pin -2", Checks.INDEX, library -> library.letter(0, -2, 0));
        CHECKS.refused("the least pin", Checks.INDEX, library -> library.letter(0, Integer.MIN_VALUE, 0));
        CHECKS.refused("the greatest pin", Checks.INDEX, library -> library.letter(0, Integer.MAX_VALUE, 0));
        CHECKS.refused("letter of cell 2 of 2", Checks.INDEX, library -> library.letter(2, NONE, 0));
        CHECKS.refused("a pin that is not, behind the name", Checks.INDEX, library -> library.letter(0, 4, 99));
        CHECKS.refused("a cell that is not, behind the name", Checks.INDEX, library -> library.letter(2, NONE, 99));
        int[] below = {-1, -2, -8, Integer.MIN_VALUE};
        for (int i : below) {
            CHECKS.refused("character " + i + " of a cell", Checks.INDEX, library -> library.letter(0, NONE, i));
            CHECKS.refused("character " + i + " of an input", Checks.INDEX, library -> library.letter(0, 0, i));
            CHECKS.refused("character " + i + " of an output", Checks.INDEX, library -> library.letter(0, 3, i));
        }
        for (int n : ENDS) {
            CHECKS.refused("letter of cell " + n, Checks.INDEX, library -> library.letter(n, 0, 0));
        }
    }
}
