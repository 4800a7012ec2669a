/** Promises 5, 8, 10 and 15: cell, arc, power, letter. */
final class CellTest {
    private static final Checks CHECKS = new Checks();
    private static final int[] OUTSIDE = {-1, -2, Integer.MIN_VALUE, Integer.MAX_VALUE, 100};
    private static final String TEXT = "table first : 1 / 1 / 1 ; table second : 1 / 1 / 2 ;\n"
        + "cell MIX { in a ; in bee ; in c ; drive 2 ; load 999999 ; area 40 ; out Y = a & !bee ; out Z_9 = a ^ bee ;"
        + " arc a Y pos first second ; arc a Z_9 pos second first ; arc bee Y pos first first ;"
        + " arc bee Z_9 both first first ; arc c Y neg first first ; arc c Z_9 pos first first ; power 1 2 3 4 5 6 7 8 ; }\n"
        + "cell eightchr { out O = 0 ; power 7 ; }"
        + "cell PLAIN { in a ; in b ; out Q = a & b ; arc a Q neg first first ; arc b Q pos first first ; }";

    public static void main(String[] args) {
        CellLibrary x = Checks.of(TEXT);
        cell(x);
        arc(x);
        power(x);
        letter(x);
        CHECKS.finish();
    }

    private static void cell(CellLibrary x) {
        int[][] due = {
            {3, 2, 6, 2, 999999, 40, 2, TEXT.indexOf("MIX")},
            {0, 1, 0, 0, 0, 0, 0, TEXT.indexOf("eightchr")},
            {2, 1, 2, 0, 0, 0, 1, TEXT.indexOf("PLAIN")},
        };
        for (int k = 0; k < due.length; k++) {
            for (int what = 0; what < 8; what++) {
                CHECKS.due("cell " + k + " what " + what, x.cell(k, what), due[k][what]);
            }
        }
        CHECKS.index("cell 3", () -> x.cell(3, 0));
        CHECKS.index("what 8", () -> x.cell(0, 8));
        for (int n : OUTSIDE) {
            CHECKS.index("cell " + n, () -> x.cell(n, 0));
            CHECKS.index("what " + n, () -> x.cell(0, n));
        }
    }

    private static void arc(CellLibrary x) {
        int[][] due = {{0, 0, 1, 0, 1, 1}, {0, 1, 1, 1, 0, 0}, {1, 0, 1, 0, 0, 0},
            {1, 1, 0, 0, 0, 1}, {2, 0, -1, 0, 0, 1}, {2, 1, 1, 0, 0, 1}};
        for (int k = 0; k < due.length; k++) {
            for (int what = 0; what < 6; what++) {
                CHECKS.due("arc " + k + " what " + what, x.arc(0, k, what), due[k][what]);
            }
        }
        CHECKS.due("neg that rises", x.arc(2, 0, 5), 0);
        CHECKS.due("pos that rises", x.arc(2, 1, 5), 1);
        CHECKS.index("arc 6", () -> x.arc(0, 6, 0));
        CHECKS.index("what 6", () -> x.arc(0, 0, 6));
        CHECKS.index("cell 3", () -> x.arc(3, 0, 0));
        CHECKS.index("arc of a cell without", () -> x.arc(1, 0, 0));
        for (int n : OUTSIDE) {
            CHECKS.index("arc of cell " + n, () -> x.arc(n, 0, 0));
            CHECKS.index("arc " + n, () -> x.arc(0, n, 0));
            CHECKS.index("arc what " + n, () -> x.arc(0, 0, n));
        }
    }

    private static void power(CellLibrary x) {
        for (int s = 0; s < 8; s++) {
            CHECKS.due("power in state " + s, x.power(0, s), s + 1);
        }
        CHECKS.due("power without inputs", x.power(1, 0), 7);
        for (int s = 0; s < 4; s++) {
            CHECKS.due("power not told, state " + s, x.power(2, s), 0);
        }
        CHECKS.index("state 8 of 8", () -> x.power(0, 8));
        CHECKS.index("state 1 of 1", () -> x.power(1, 1));
        CHECKS.index("state 4 of 4", () -> x.power(2, 4));
        CHECKS.index("power of cell 3", () -> x.power(3, 0));
        for (int n : OUTSIDE) {
            CHECKS.index("power of cell " + n, () -> x.power(n, 0));
            CHECKS.index("power in state " + n, () -> x.power(0, n));
        }
    }

    private static void letter(CellLibrary x) {
        spelled(x, 0, CellLibrary.NONE, "MIX");
        spelled(x, 0, 0, "a");
        spelled(x, 0, 1, "bee");
        spelled(x, 0, 2, "c");
        spelled(x, 0, 3, "Y");
        spelled(x, 0, 4, "Z_9");
        spelled(x, 1, CellLibrary.NONE, "eightchr");
        spelled(x, 1, 0, "O");
        spelled(x, 2, 2, "Q");
        CHECKS.index("pin 5 of 5", () -> x.letter(0, 5, 0));
        CHECKS.index("pin 1 of 1", () -> x.letter(1, 1, 0));
        CHECKS.index("pin -2", () -> x.letter(0, -2, 0));
        CHECKS.index("letter of cell 3", () -> x.letter(3, 0, 0));
        CHECKS.index("a pin that is not, behind the name", () -> x.letter(0, 5, 99));
        CHECKS.index("character -1", () -> x.letter(0, 0, -1));
        CHECKS.index("character -1 of a cell", () -> x.letter(0, CellLibrary.NONE, -1));
        CHECKS.index("the least character", () -> x.letter(0, 0, Integer.MIN_VALUE));
        CHECKS.index("the least pin", () -> x.letter(0, Integer.MIN_VALUE, 0));
        CHECKS.index("the greatest pin", () -> x.letter(0, Integer.MAX_VALUE, 0));
        CHECKS.index("the least cell", () -> x.letter(Integer.MIN_VALUE, 0, 0));
    }

    private static void spelled(CellLibrary x, int cell, int pin, String name) {
        int[] behind = {8, 9, 32, 63, 64, 1 << 29, Integer.MAX_VALUE};
        for (int i = 0; i < name.length(); i++) {
            CHECKS.due("letter " + i + " of " + name, x.letter(cell, pin, i), name.charAt(i));
        }
        CHECKS.due("just behind " + name, x.letter(cell, pin, name.length()), CellLibrary.NONE);
        for (int i : behind) {
            CHECKS.due("letter " + i + " of " + name, x.letter(cell, pin, i), CellLibrary.NONE);
        }
    }
}
