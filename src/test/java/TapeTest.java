/** Promises 1, 2, 3 and 16: a new object, unit, units, count; and the tape with its room. */
final class TapeTest {
    private static final Checks CHECKS = new Checks();
    private static final int NONE = CellLibrary.NONE;
    private static final int ROOM = 1400;
    private static final String CELL = "cell c{out Y=1;}";

    public static void main(String[] args) {
        newObject();
        charactersOfUnit();
        unitWritesBehind();
        charactersOfUnits();
        highestByteFirst();
        zerosAreLeftOut();
        noneComes();
        roomForUnit();
        roomForUnits();
        badCharacterOnFullTape();
        wholeTapeIsRead();
        roomAgain();
        count();
        CHECKS.finish();
    }

    private static boolean mayStand(int u) {
        return u >= 32 && u <= 126 || u == 10;
    }

    private static void newObject() {
        CHECKS.sentence("No tables, no cells.");
        CountedLibrary x = new CountedLibrary();
        for (int what = 0; what < 3; what++) {
            CHECKS.due("count " + what + " of a new object", x.count(what), 0);
        }
        CHECKS.index("cell of a new object", () -> x.cell(0, 0));
        CHECKS.index("truth of a new object", () -> x.truth(0, 0));
        CHECKS.index("sense of a new object", () -> x.sense(0, 0, 0));
        CHECKS.index("arc of a new object", () -> x.arc(0, 0, 0));
        CHECKS.index("delay of a new object", () -> x.delay(0, 0, -1, -1, true));
        CHECKS.index("power of a new object", () -> x.power(0, 0));
        CHECKS.index("alike of a new object", () -> x.alike(0, 0) ? 1 : 0);
        CHECKS.index("order of a new object", () -> x.order(0, 0, 0));
        CHECKS.index("family of a new object", () -> x.family(0, 0));
        CHECKS.index("best of a new object", () -> x.best(0, -1));
        CHECKS.index("letter of a new object", () -> x.letter(0, NONE, 0));
        CHECKS.due("NONE", CellLibrary.NONE, -1);
        CHECKS.due("read of an empty tape", x.read(), 0);
        CHECKS.due("no cells still", x.count(0), 0);
    }

    private static void charactersOfUnit() {
        CHECKS.sentence("characters (32 .. 126, and 10)");
        CountedLibrary x = new CountedLibrary();
        int length = 0;
        for (int u = -20; u < 200; u++) {
            CHECKS.due("unit " + u, x.unit(u), mayStand(u));
            length += mayStand(u) ? 1 : 0;
            CHECKS.due("tape behind unit " + u, x.count(2), length);
        }
        // Their lowest byte alone would do.
        int[] wide = {256 + 'a', 65536 + 'a', 1 << 24 | 'a', -256 + 'a', Integer.MIN_VALUE + 'a', 256 + 10,
            Integer.MIN_VALUE, Integer.MAX_VALUE};
        for (int u : wide) {
            CHECKS.refused("unit " + u, 0, library -> library.unit(u) ? 1 : 0);
        }
        int[] besides = {-1, 0, 9, 11, 31, 127, 128, 255};
        for (int u : besides) {
            CHECKS.refused("unit " + u, 0, library -> library.unit(u) ? 1 : 0);
        }
    }

    private static void unitWritesBehind() {
        CHECKS.sentence("A character more on the tape");
        CountedLibrary x = new CountedLibrary();
        String text = "cell Ab_9{out Y=1;}";
        for (int i = 0; i < text.length(); i++) {
            CHECKS.due("unit " + text.charAt(i), x.unit(text.charAt(i)), true);
            CHECKS.due("tape behind " + text.charAt(i), x.count(2), i + 1);
        }
        CHECKS.due("read of what units wrote", x.read(), 1);
        CHECKS.spelled(x, 0, NONE, "Ab_9");
        CHECKS.due("the tape is empty then", x.count(2), 0);
    }

    private static void charactersOfUnits() {
        CHECKS.sentence("whether all were such");
        for (int at = 0; at < 4; at++) {
            CountedLibrary x = new CountedLibrary();
            int length = 0;
            for (int u = 0; u < 256; u++) {
                int word = Checks.four(' ', ' ', ' ', ' ') & ~(255 << 8 * at) | u << 8 * at;
                boolean due = mayStand(u) || u == 0;
                CHECKS.due("units " + word, x.units(word), due);
                length += !due ? 0 : u == 0 ? 3 : 4;
            }
            CHECKS.due("the tape behind them", x.count(2), length);
        }
    }

    private static void highestByteFirst() {
        CHECKS.sentence("Four characters more, the highest byte first");
        CountedLibrary x = new CountedLibrary();
        CHECKS.due("units", x.units(Checks.four('c', 'e', 'l', 'l')), true);
        CHECKS.due("the tape behind four", x.count(2), 4);
        CHECKS.due("units", x.units(Checks.four('\n', 'a', 'b', 'c')), true);
        CHECKS.due("the tape behind eight", x.count(2), 8);
        CHECKS.due("read", Checks.read(x, "d{out Y=1;}"), 1);
        CHECKS.spelled(x, 0, NONE, "abcd");
        CHECKS.due("the place of the name", x.cell(0, 7), 5);
    }

    private static void zerosAreLeftOut() {
        CHECKS.sentence("0s are left out");
        for (int kept = 0; kept < 16; kept++) {
            StringBuilder name = new StringBuilder("n");
            int word = 0;
            for (int i = 0; i < 4; i++) {
                boolean there = (kept >> i & 1) == 1;
                word = word << 8 | (there ? 'a' + i : 0);
                name.append(there ? String.valueOf((char) ('a' + i)) : "");
            }
            CountedLibrary x = new CountedLibrary();
            Checks.write(x, "cell n");
            CHECKS.due("units " + word, x.units(word), true);
            CHECKS.due("the tape behind units " + word, x.count(2), 6 + Integer.bitCount(kept));
            CHECKS.due("read", Checks.read(x, "{out Y=1;}"), 1);
            CHECKS.spelled(x, 0, NONE, name.toString());
        }
    }

    private static void noneComes() {
        CHECKS.sentence("(else none comes)");
        int[] bad = {1, 9, 11, 31, 127, 128, 138, 160, 255};
        for (int u : bad) {
            for (int at = 0; at < 4; at++) {
                int full = Checks.four('a', 'b', 'c', 'd') & ~(255 << 8 * at) | u << 8 * at;
                CHECKS.refused("units " + full, 0, library -> library.units(full) ? 1 : 0);
                int alone = u << 8 * at;
                CHECKS.refused("units " + alone, 0, library -> library.units(alone) ? 1 : 0);
            }
        }
    }

    /** A tape with so much room left, ending in a cell; a # behind it would be a fault. */
    private static CountedLibrary almostFull(int room) {
        CountedLibrary x = new CountedLibrary();
        Checks.write(x, " ".repeat(ROOM - room - CELL.length()) + CELL);
        CHECKS.due("the tape", x.count(2), ROOM - room);
        return x;
    }

    private static void roomForUnit() {
        CHECKS.sentence("THE TAPE has up to 1400 characters; unit: whether there was room");
        CountedLibrary one = almostFull(1);
        CHECKS.due("the 1400th character", one.unit('#'), true);
        CHECKS.due("the tape is full", one.count(2), ROOM);
        CHECKS.due("the 1401st character", one.unit('#'), false);
        CHECKS.due("still full", one.count(2), ROOM);
        CHECKS.due("the 1400th is read", one.read(), -ROOM);
        CountedLibrary none = almostFull(0);
        CHECKS.due("the 1401st character", none.unit('#'), false);
        CHECKS.due("a blank too many", none.unit(' '), false);
        CHECKS.due("still full", none.count(2), ROOM);
        CHECKS.due("none of them is read", none.read(), 1);
    }

    private static void roomForUnits() {
        CHECKS.sentence("THE TAPE has up to 1400 characters; units: there was room for them (else none comes)");
        int[] words = {0, '#', Checks.four('#', 0, 0, '#'), Checks.four(0, '#', '#', '#'), Checks.four('#', '#', '#', '#')};
        for (int room = 0; room <= 4; room++) {
            for (int many = 0; many <= 4; many++) {
                CountedLibrary x = almostFull(room);
                boolean fits = many <= room;
                CHECKS.due(many + " characters with room for " + room, x.units(words[many]), fits);
                CHECKS.due("the tape behind " + many + " with room for " + room, x.count(2), ROOM - room + (fits ? many : 0));
                CHECKS.due("read behind " + many + " with room for " + room, x.read(),
                    fits && many > 0 ? -1 - (ROOM - room) : 1);
            }
        }
    }

    private static void badCharacterOnFullTape() {
        CHECKS.sentence("whether it was one and there was room");
        CountedLibrary x = almostFull(0);
        CHECKS.due("no character and no room", x.unit(9), false);
        CHECKS.due("no characters and no room", x.units(Checks.four(9, 9, 9, 9)), false);
        CHECKS.due("one bad character of four and no room", x.units(Checks.four('a', 'b', 'c', 200)), false);
        CHECKS.due("0s need no room", x.units(0), true);
        CHECKS.due("still full", x.count(2), ROOM);
        CHECKS.due("read", x.read(), 1);
    }

    private static void wholeTapeIsRead() {
        CHECKS.sentence("THE TAPE has up to 1400 characters; it is read as a text");
        CountedLibrary x = almostFull(0);
        CHECKS.due("a full tape", x.read(), 1);
        CHECKS.due("the place of the name", x.cell(0, 7), ROOM - CELL.length() + 5);
        CountedLibrary full = new CountedLibrary();
        for (int n = 0; n < 350; n++) {
            CHECKS.due("four of 1400", full.units(Checks.four('\n', ' ', '\n', ' ')), true);
        }
        CHECKS.due("the tape", full.count(2), ROOM);
        CHECKS.due("blanks", full.read(), 0);
        String body = "cell c{out Y=1;drive ";
        String[] ends = {"7", "a", "1234567", "ninechars"};
        for (String end : ends) {
            String text = body + " ".repeat(ROOM - body.length() - end.length()) + end;
            int place = end.equals("7") ? ROOM : ROOM - end.length();
            CHECKS.due("a full tape that ends in " + end, Checks.read(new CountedLibrary(), text), -1 - place);
        }
    }

    private static void roomAgain() {
        CHECKS.sentence("The tape (which is empty then)");
        CountedLibrary x = almostFull(0);
        CHECKS.due("no room", x.unit(' '), false);
        CHECKS.due("read", x.read(), 1);
        CHECKS.due("the tape is empty", x.count(2), 0);
        CHECKS.due("room again for one", x.unit(' '), true);
        CHECKS.due("the tape has one", x.count(2), 1);
        CountedLibrary y = new CountedLibrary();
        CHECKS.due("a fault", Checks.read(y, "#"), -1);
        CHECKS.due("the tape is empty behind a fault", y.count(2), 0);
        CHECKS.due("read of the empty tape", y.read(), 0);
        CHECKS.due("digits", Checks.read(y, "1".repeat(60)), -1);
        CHECKS.due("digits of an older text behind a number", Checks.read(y, "cell c{drive 12"), -16);
        CHECKS.due("letters", Checks.read(y, "a".repeat(60)), -1);
        CHECKS.due("letters of an older text behind a name", Checks.read(y, "cell c{in bb"), -13);
    }

    private static void count() {
        CHECKS.sentence("How many: what = 0 cells, 1 tables, 2 characters on the tape.");
        CountedLibrary x = Checks.of("table a : 1 / 1 / 1 ; cell c { out Y = 1 ; } table b : 1 / 1 / 1 ; table c : 1 / 1 / 1 ;"
            + "cell d { out Y = 1 ; }");
        x.unit('x');
        CHECKS.due("cells", x.count(0), 2);
        CHECKS.due("tables", x.count(1), 3);
        CHECKS.due("characters", x.count(2), 1);
        int[] wrong = {-1, 3, 4, Integer.MIN_VALUE, Integer.MAX_VALUE};
        for (int what : wrong) {
            CHECKS.refused("count " + what, Checks.INDEX, library -> library.count(what));
        }
    }
}
