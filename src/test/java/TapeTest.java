/** Promises 1, 2, 3 and 16: a new object, unit, units, count. */
final class TapeTest {
    private static final Checks CHECKS = new Checks();

    public static void main(String[] args) {
        newObject();
        unit();
        units();
        room();
        count();
        CHECKS.finish();
    }

    private static void newObject() {
        CellLibrary x = new CellLibrary();
        for (int what = 0; what < 3; what++) {
            CHECKS.due("count " + what + " of a new object", x.count(what), 0);
        }
        CHECKS.index("cell of a new object", () -> x.cell(0, 0));
        CHECKS.index("truth of a new object", () -> x.truth(0, 0));
        CHECKS.index("sense of a new object", () -> x.sense(0, 0, 0));
        CHECKS.index("arc of a new object", () -> x.arc(0, 0, 0));
        CHECKS.index("delay of a new object", () -> x.delay(0, 0, -1, -1, true));
        CHECKS.index("power of a new object", () -> x.power(0, 0));
        CHECKS.index("alike of a new object", () -> x.alike(0, 0) ? 1 : 0);
        CHECKS.index("order of a new object", () -> x.order(0, 0, 0));
        CHECKS.index("family of a new object", () -> x.family(0, 0));
        CHECKS.index("best of a new object", () -> x.best(0, -1));
        CHECKS.index("letter of a new object", () -> x.letter(0, CellLibrary.NONE, 0));
        CHECKS.due("NONE", CellLibrary.NONE, -1);
        CHECKS.due("read of an empty tape", x.read(), 0);
    }

    private static void unit() {
        CellLibrary x = new CellLibrary();
        int length = 0;
        for (int u = -2; u < 400; u++) {
            boolean stands = u >= 32 && u <= 126 || u == 10;
            CHECKS.due("unit " + u, x.unit(u), stands);
            length += stands ? 1 : 0;
            CHECKS.due("tape behind unit " + u, x.count(2), length);
        }
        int[] wide = {65536 + 'a', -256 + 'a', Integer.MIN_VALUE, Integer.MAX_VALUE, Integer.MIN_VALUE + 'a'};
        for (int u : wide) {
            CHECKS.due("unit " + u, x.unit(u), false);
        }
    }

    private static void units() {
        CellLibrary x = new CellLibrary();
        CHECKS.due("units of 0s", x.units(0), true);
        CHECKS.due("tape behind 0s", x.count(2), 0);
        CHECKS.due("four", x.units(four('c', 'e', 'l', 'l')), true);
        CHECKS.due("tape behind four", x.count(2), 4);
        CHECKS.due("0s between", x.units(four(0, ' ', 0, 'c')), true);
        CHECKS.due("0s in front", x.units(four(0, 0, 0, '{')), true);
        CHECKS.due("0s behind", x.units(four('o', 0, 0, 0)), true);
        CHECKS.due("a line's end", x.units(four('u', 't', 10, 0)), true);
        int length = x.count(2);
        int[] bad = {1, 9, 11, 31, 127, 128, 200, 255};
        for (int u : bad) {
            for (int at = 0; at < 4; at++) {
                int word = four('a', 'b', 0, 'd') & ~(255 << 8 * at) | u << 8 * at;
                CHECKS.due("units " + word, x.units(word), false);
                CHECKS.due("tape behind units " + word, x.count(2), length);
            }
        }
        x.units(four('Y', '=', '1', ';'));
        x.units(four('}', 0, 0, 0));
        CHECKS.due("read of units in their order", x.read(), 1);
        CHECKS.due("the name that units wrote", x.letter(0, -1, 0), 'c');
        CHECKS.due("its place", x.cell(0, 7), 5);
    }

    private static void room() {
        CellLibrary x = new CellLibrary();
        for (int n = 0; n < 349; n++) {
            CHECKS.due("units with room", x.units(four(' ', ' ', ' ', ' ')), true);
        }
        CHECKS.due("a unit", x.unit(' ') && x.unit(' '), true);
        CHECKS.due("units without room for all", x.units(four(' ', 0, ' ', ' ')), false);
        CHECKS.due("none came", x.count(2), 1398);
        CHECKS.due("units with just the room", x.units(four(0, ' ', 0, ' ')), true);
        CHECKS.due("the tape is full", x.count(2), 1400);
        CHECKS.due("a unit too many", x.unit(' '), false);
        CHECKS.due("units too many", x.units(four(0, 0, 0, ' ')), false);
        CHECKS.due("0s have room always", x.units(0), true);
        CHECKS.due("still full", x.count(2), 1400);
        CHECKS.due("read of blanks", x.read(), 0);
        CHECKS.due("room again", x.unit(' '), true);
    }

    private static void count() {
        CellLibrary x = Checks.of("table a : 1 / 1 / 1 ; cell c { out Y = 1 ; } table b : 1 / 1 / 1 ; table c : 1 / 1 / 1 ;"
            + "cell d { out Y = 1 ; }");
        x.unit('x');
        CHECKS.due("cells", x.count(0), 2);
        CHECKS.due("tables", x.count(1), 3);
        CHECKS.due("characters", x.count(2), 1);
        int[] wrong = {-1, 3, Integer.MIN_VALUE, Integer.MAX_VALUE};
        for (int what : wrong) {
            CHECKS.index("count " + what, () -> x.count(what));
        }
    }

    private static int four(int a, int b, int c, int d) {
        return a << 24 | b << 16 | c << 8 | d;
    }
}
