/** Terms: names, numbers, signs and blanks, with the longest of them. In a faulty text the place due is marked by @. */
final class WordsTest {
    private static final Checks CHECKS = new Checks();
    private static final int NONE = CellLibrary.NONE;

    public static void main(String[] args) {
        nameBegins();
        nameGoesOn();
        longestName();
        longestNameWhereOneIsMeant();
        namesThatDifferAtTheEnd();
        longestNumber();
        numberEnds();
        signsStandAlone();
        blanksBetween();
        noOtherBlanks();
        wordsAreNamesToo();
        lettersAsTheyAre();
        CHECKS.finish();
    }

    private static boolean begins(int c) {
        return c >= 'a' && c <= 'z' || c >= 'A' && c <= 'Z' || c == '_';
    }

    private static void nameBegins() {
        CHECKS.sentence("NAMES .. that begin with a letter or _");
        for (char c = 33; c < 127; c++) {
            CountedLibrary x = new CountedLibrary();
            CHECKS.due("a cell named " + c, Checks.read(x, "cell " + c + " {out Y=1;}"), begins(c) ? 1 : -6);
            if (begins(c)) {
                CHECKS.spelled(x, 0, NONE, String.valueOf(c));
            }
        }
    }

    private static void nameGoesOn() {
        CHECKS.sentence("NAMES, rows of letters, digits and _ as long as can be");
        for (char c = 33; c < 127; c++) {
            boolean goesOn = begins(c) || c >= '0' && c <= '9';
            CountedLibrary x = new CountedLibrary();
            // A { is the word due behind the name, so the fault is the next one.
            int fault = c == '{' ? -8 : -7;
            CHECKS.due("a cell named n" + c, Checks.read(x, "cell n" + c + "{out Y=1;}"), goesOn ? 1 : fault);
            if (goesOn) {
                CHECKS.spelled(x, 0, NONE, "n" + c);
            }
        }
        CHECKS.fault("@cellc { out Y = 1 ; }");
        CHECKS.fault("@tablet : 1 / 1 / 1 ;");
        CHECKS.fault("cell c { @ina ; out Y = 1 ; }");
        CHECKS.fault("cell c { @in1 ; out Y = 1 ; }");
        CHECKS.fault("cell c { @out_ Y = 1 ; }");
    }

    private static void longestName() {
        CHECKS.sentence("NAMES .. (8 at most)");
        String[] places = {
            "table # : 1 / 1 / 1 ;", "cell # { out Y = 1 ; }", "cell c { in # ; out Y = 1 ; }", "cell c { out # = 1 ; }",
        };
        String[] taken = {"a", "abcdefg", "abcdefgh", "________", "a1234567", "ABCDEFGH"};
        String[] refused = {"abcdefghi", "_________", "a12345678", "abcdefghabcdefgh", "n".repeat(256), "n".repeat(264)};
        for (String place : places) {
            int cells = place.startsWith("cell") ? 1 : 0;
            for (String name : taken) {
                CHECKS.sound(place.replace("#", name), cells);
            }
            for (String name : refused) {
                CHECKS.fault(place.replace("#", "@" + name));
            }
        }
        CHECKS.fault("@abcdefghi");
        CHECKS.fault("cell c { @abcdefghi ; out Y = 1 ; }");
        CHECKS.fault("cell c { in a @abcdefghi ; out Y = a ; }");
        CHECKS.fault("cell c { drive @abcdefghi ; out Y = 1 ; }");
        CHECKS.fault("cell c { out Y = 1 ; } @abcdefghi");
    }

    private static void longestNameWhereOneIsMeant() {
        CHECKS.sentence("NAMES .. (8 at most), a row that is too long among them");
        String text = "table tttttttt : 1 / 1 / 1 ; cell c { in iiiiiiii ; out oooooooo = iiiiiiii ; arc iiiiiiii oooooooo both tttttttt tttttttt ; }";
        CHECKS.sound(text, 1);
        // A row of nine is not taken for its first eight.
        String[] names = {"iiiiiiii ; arc", "iiiiiiii oooooooo both", "oooooooo both", "both tttttttt", "tttttttt tttttttt", "tttttttt ; }"};
        String[] longer = {"@iiiiiiiii ; arc", "@iiiiiiiii oooooooo both", "@ooooooooo both", "both @ttttttttt", "@ttttttttt tttttttt", "@ttttttttt ; }"};
        for (int i = 0; i < names.length; i++) {
            CHECKS.fault(text.replace(names[i], longer[i]));
        }
        CHECKS.fault(text.replace("both", "@bothbothb"));
    }

    private static void namesThatDifferAtTheEnd() {
        CHECKS.sentence("NAMES .. (8 at most): all eight count");
        CHECKS.sound("cell abcdefgh { out Y = 1 ; } cell abcdefgi { out Y = 1 ; } cell abcdefg { out Y = 1 ; }", 3);
        CHECKS.sound("table abcdefgh : 1 / 1 / 1 ; table abcdefgi : 1 / 1 / 1 ; table abcdefg : 1 / 1 / 1 ;", 0);
        CHECKS.sound("cell c { in abcdefgh ; in abcdefgi ; out abcdefg = abcdefgi ; }", 1);
        CHECKS.fault("cell abcdefgh { out Y = 1 ; } cell @abcdefgh { out Y = 1 ; }");
        CHECKS.fault("cell c { in abcdefgh ; out Y = @abcdefg ; }");
        CHECKS.fault("cell c { in abcdefg ; out Y = @abcdefgh ; }");
        CHECKS.fault("cell c { in a ; out Y = @A ; }");
    }

    private static void longestNumber() {
        CHECKS.sentence("NUMBERS, rows of digits as long as can be (6 at most)");
        String[] places = {
            "table t : # / 1 / 1 ;", "table t : 0 # / 1 / 1 1 ;", "table t : 1 / # / 1 ;", "table t : 1 / 1 / # ;",
            "table t : 1 / 1 2 / 1 # ;", "cell c { drive # ; out Y = 1 ; }", "cell c { load # ; out Y = 1 ; }",
            "cell c { area # ; out Y = 1 ; }", "cell c { power # ; out Y = 1 ; }", "cell c { in a ; power 1 # ; out Y = 1 ; }",
        };
        String[] taken = {"1", "12345", "123456", "999999", "000001"};
        String[] refused = {"1234567", "0000001", "0000000", "1000000", "9".repeat(12), "1".repeat(256), "1".repeat(262)};
        for (String place : places) {
            int cells = place.startsWith("cell") ? 1 : 0;
            for (String number : taken) {
                CHECKS.sound(place.replace("#", number), cells);
            }
            for (String number : refused) {
                CHECKS.fault(place.replace("#", "@" + number));
            }
        }
        CHECKS.fault("table t : 1 2 3 4 @1234567 / 1 / 1 ;");
        CHECKS.fault("table t : 1 / 1 / 1 @1234567 ;");
        CountedLibrary x = Checks.of("cell c{out Y=1;drive 999999;load 000007;area 0;power 123456;}");
        CHECKS.due("the greatest number", x.cell(0, 3), 999999);
        CHECKS.due("0s before a number", x.cell(0, 4), 7);
        CHECKS.due("the least number", x.cell(0, 5), 0);
        CHECKS.due("six digits", x.power(0, 0), 123456);
    }

    private static void numberEnds() {
        CHECKS.sentence("NUMBERS, rows of digits as long as can be");
        CHECKS.fault("cell c { drive 12@ab ; out Y = 1 ; }");
        CHECKS.fault("cell c { drive 1@_2 ; out Y = 1 ; }");
        CHECKS.fault("cell @1c { out Y = 1 ; }");
        CHECKS.fault("cell c { drive 1@.5 ; out Y = 1 ; }");
        CHECKS.fault("cell c { drive @-1 ; out Y = 1 ; }");
        CHECKS.fault("cell c { drive @+1 ; out Y = 1 ; }");
        CHECKS.fault("cell c { drive 1 @2 ; out Y = 1 ; }");
        for (char c = 33; c < 127; c++) {
            boolean goesOn = c >= '0' && c <= '9';
            CountedLibrary x = new CountedLibrary();
            // A ; is the word due behind the number, so the fault is the next one.
            int fault = c == ';' ? -16 : -15;
            CHECKS.due("a drive of 1" + c, Checks.read(x, "cell c{drive 1" + c + ";out Y=1;}"), goesOn ? 1 : fault);
            if (goesOn) {
                CHECKS.due("its number", x.cell(0, 3), 10 + c - '0');
            }
        }
    }

    private static void signsStandAlone() {
        CHECKS.sentence("each other character alone (a SIGN)");
        CHECKS.fault("table t :@: 1 / 1 / 1 ;");
        CHECKS.fault("table t : 1 /@/ 1 ;");
        CHECKS.fault("cell c { in a ;@; out Y = a ; }");
        CHECKS.fault("cell c { in a ; out Y =@= a ; }");
        CHECKS.fault("cell c { in a ; out Y = a &@& a ; }");
        CHECKS.fault("cell c { in a ; out Y = a |@| a ; }");
        CHECKS.fault("cell c {@{ in a ; out Y = a ; }");
        CHECKS.sound("cell c { in a ; out Y =!!((!a))^a; }", 1);
    }

    private static void blanksBetween() {
        CHECKS.sentence("Blanks (32, 10) may stand between them.");
        String[] words = {"table", "t", ":", "1", "2", "/", "3", "/", "4", "5", ";", "cell", "c", "{", "in", "a", ";", "out", "Y",
            "=", "!", "(", "a", "&", "1", "|", "0", "^", "a", ")", ";", "arc", "a", "Y", "both", "t", "t", ";", "power", "6", "7",
            ";", "drive", "8", ";", "}"};
        String[] blanks = {" ", "\n", "  ", "\n\n", " \n ", "\n    \n"};
        for (String blank : blanks) {
            CHECKS.sound(blank + String.join(blank, words) + blank, 1);
            CHECKS.sound(String.join(blank, words), 1);
        }
        CHECKS.sound("table t:1 2/3/4 5;cell c{in a;out Y=!(a&1|0^a);arc a Y both t t;power 6 7;drive 8;}", 1);
        CHECKS.fault("@ce ll c { out Y = 1 ; }");
        CHECKS.fault("@ce\nll c { out Y = 1 ; }");
        CHECKS.fault("cell a @b { out Y = 1 ; }");
        CHECKS.fault("cell a\n@b { out Y = 1 ; }");
        CHECKS.fault("cell c { drive 1\n@2 ; out Y = 1 ; }");
    }

    private static void noOtherBlanks() {
        CHECKS.sentence("Blanks (32, 10)");
        for (char c = 33; c < 127; c++) {
            CHECKS.due("a text of " + c, Checks.read(new CountedLibrary(), String.valueOf(c)), -1);
        }
        CHECKS.due("a blank", Checks.read(new CountedLibrary(), " "), 0);
        CHECKS.due("a line's end", Checks.read(new CountedLibrary(), "\n"), 0);
    }

    private static void wordsAreNamesToo() {
        CHECKS.sentence("(The words in, out, arc, .. are names, too, where a name stands.)");
        String[] words = {"in", "out", "arc", "drive", "load", "area", "power", "table", "cell", "pos", "neg", "both"};
        for (String word : words) {
            String text = "table # : 1 / 1 / 5 ; cell # { in # ; out Y = ! # ; arc # Y neg # # ; } cell o { in a ; out # = a ; arc a # pos # # ; }";
            CountedLibrary x = new CountedLibrary();
            CHECKS.due(word, Checks.read(x, text.replace("#", word)), 2);
            CHECKS.spelled(x, 0, NONE, word);
            CHECKS.spelled(x, 0, 0, word);
            CHECKS.spelled(x, 1, 1, word);
            CHECKS.due("its truth", x.truth(0, 0), 1);
            CHECKS.due("its delay", x.delay(0, 0, 0, 0, true), 5);
        }
        CHECKS.fault("cell c { @In a ; out Y = 1 ; }");
        CHECKS.fault("@CELL c { out Y = 1 ; }");
        CHECKS.fault("@Table t : 1 / 1 / 1 ;");
    }

    private static void lettersAsTheyAre() {
        CHECKS.sentence("Character i of a cell's name (pin NONE), or of a pin's");
        String[] names = {"abcdefgh", "ijklmnop", "qrstuvwx", "yz_ABCDE", "FGHIJKLM", "NOPQRSTU", "VWXYZ012", "_3456789"};
        for (String name : names) {
            CountedLibrary x = Checks.of("cell " + name + "{in " + name + ";out Y=1;}");
            CHECKS.spelled(x, 0, NONE, name);
            CHECKS.spelled(x, 0, 0, name);
            CHECKS.spelled(x, 0, 1, "Y");
        }
    }
}
