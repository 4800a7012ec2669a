/** Each clause of THE FAULT, on both sides. In a faulty text the place due is marked by @. */
final class FaultTest {
    private static final Checks CHECKS = new Checks();
    private static final String T = "table t : 1 / 1 / 1 ; ";
    private static final String SIX = "cell c { in a ; in b ; in d ; in e ; in f ; in g ; ";

    public static void main(String[] args) {
        nameOfTable();
        nameOfCell();
        nameOfPin();
        inputNotTold();
        outputNotTold();
        tableNotTold();
        axisDoesNotRise();
        inBehindOut();
        inBehindPower();
        secondTime();
        secondArc();
        noOutput();
        tables();
        cells();
        inputs();
        outputs();
        arcs();
        brackets();
        firstOfSeveral();
        placeFromZero();
        CHECKS.finish();
    }

    private static void nameOfTable() {
        CHECKS.sentence("the name of a table that a table has");
        CHECKS.fault(T + "table @t : 1 / 1 / 1 ;");
        CHECKS.fault(T + "table u : 1 / 1 / 1 ; table @u : 1 / 1 / 1 ;");
        CHECKS.fault(T + "table u : 1 / 1 / 1 ; table @t : 1 / 1 / 1 ;");
        CHECKS.fault(T + "cell t { out t = 1 ; } table @t : 1 / 1 / 1 ;");
        CHECKS.sound(T + "table T : 1 / 1 / 1 ; table tt : 1 / 1 / 1 ;", 0);
        CHECKS.sound("cell t { in u ; out v = u ; } table t : 1 / 1 / 1 ; table u : 1 / 1 / 1 ; table v : 1 / 1 / 1 ;", 1);
        CountedLibrary x = Checks.of(T);
        CHECKS.due("a table of the text before", Checks.read(x, T), 0);
    }

    private static void nameOfCell() {
        CHECKS.sentence("the name .. of a cell that a cell has");
        String d = "cell d { out Y = 1 ; } ";
        CHECKS.fault(d + "cell @d { out Y = 1 ; }");
        CHECKS.fault(d + "cell e { out Y = 1 ; } cell @e { out Y = 1 ; }");
        CHECKS.fault(d + "cell e { out Y = 1 ; } cell @d { out Y = 1 ; }");
        CHECKS.sound(d + "cell D { out Y = 1 ; } cell dd { out Y = 1 ; }", 3);
        CHECKS.sound("table d : 1 / 1 / 1 ; " + d + "cell Y { out d = 1 ; }", 2);
        CountedLibrary x = Checks.of(d);
        CHECKS.due("a cell of the text before", Checks.read(x, d), 1);
    }

    private static void nameOfPin() {
        CHECKS.sentence("the name .. of a pin that the cell has");
        CHECKS.fault("cell c { in a ; in @a ; out Y = 1 ; }");
        CHECKS.fault("cell c { in a ; in b ; in @a ; out Y = 1 ; }");
        CHECKS.fault("cell c { in a ; in b ; in @b ; out Y = 1 ; }");
        CHECKS.fault("cell c { in a ; out @a = 1 ; }");
        CHECKS.fault("cell c { in a ; in b ; out @b = 1 ; }");
        CHECKS.fault("cell c { out Y = 1 ; out @Y = 1 ; }");
        CHECKS.fault("cell c { out X = 1 ; out Y = 1 ; out @X = 1 ; }");
        CHECKS.fault("cell c { out X = 1 ; out Y = 1 ; out @Y = 1 ; }");
        CHECKS.sound(T + "cell c { in a ; in A ; in c ; out t = 1 ; out d = 0 ; out Y = a ; } cell d { in a ; in A ; out Y = a ; out d = 1 ; }", 2);
    }

    private static void inputNotTold() {
        CHECKS.sentence("an input .. told in an item that is not told yet");
        CHECKS.fault("cell c { out Y = @a ; }");
        CHECKS.fault("cell c { in a ; out Y = @b ; }");
        CHECKS.fault("cell c { in a ; out Y = a | ( a ^ ! @b ) ; }");
        CHECKS.fault("cell c { in a ; out Y = @Y ; }");
        CHECKS.fault("cell c { in a ; out X = a ; out Y = @X ; }");
        CHECKS.fault("cell c { in a ; out Y = @c ; }");
        CHECKS.fault("cell c { in a ; out Y = a ; } cell d { in b ; out Y = @a ; }");
        CHECKS.fault(T + "cell c { in a ; out Y = a ; arc @b Y pos t t ; }");
        CHECKS.fault(T + "cell c { in a ; out Y = a ; arc @Y Y pos t t ; }");
        CHECKS.fault(T + "cell c { out Y = 1 ; arc @Y Y pos t t ; }");
        CHECKS.fault(T + "cell c { in a ; in b ; out Y = b ; } cell d { in a ; out Y = a ; arc @b Y pos t t ; }");
        CHECKS.sound(T + "cell c { in a ; in b ; out Y = a ; arc a Y pos t t ; out Z = b ; arc b Z pos t t ; }", 1);
    }

    private static void outputNotTold() {
        CHECKS.sentence("an .. output .. told in an item that is not told yet");
        CHECKS.fault(T + "cell c { in a ; arc a @Y pos t t ; out Y = a ; }");
        CHECKS.fault(T + "cell c { in a ; out X = a ; arc a @Y pos t t ; out Y = a ; }");
        CHECKS.fault(T + "cell c { in a ; out X = a ; arc a @a pos t t ; }");
        CHECKS.fault(T + "cell c { in a ; out X = a ; out Y = a ; } cell d { in a ; out X = a ; arc a @Y pos t t ; }");
        CHECKS.sound(T + "cell c { in a ; out X = a ; out Y = a ; arc a Y pos t t ; arc a X pos t t ; }", 1);
    }

    private static void tableNotTold() {
        CHECKS.sentence("an .. table told in an item that is not told yet");
        String head = "cell c { in a ; out Y = a ; arc a Y pos ";
        CHECKS.fault(head + "@t t ; } " + T);
        CHECKS.fault(T + head + "@u t ; } table u : 1 / 1 / 1 ;");
        CHECKS.fault(T + head + "t @u ; } table u : 1 / 1 / 1 ;");
        CHECKS.fault(T + head + "t @a ; }");
        CHECKS.fault(T + head + "t @c ; }");
        CHECKS.sound(T + head + "t t ; }", 1);
        CHECKS.sound(T + "table u : 1 / 1 / 1 ; " + head + "u t ; }", 1);
        CountedLibrary x = Checks.of(T);
        CHECKS.due("a table of the text before", Checks.read(x, head + "t t ; }"), -1 - head.length());
    }

    private static void axisDoesNotRise() {
        CHECKS.sentence("a number of an axis that does not rise");
        String[] axes = {"table t : # / 1 / 7 7 7 7 ;", "table t : 1 / # / 7 7 7 7 ;"};
        for (String axis : axes) {
            CHECKS.sound(axis.replace("#", "0 1 2 3"), 0);
            CHECKS.sound(axis.replace("#", "999996 999997 999998 999999"), 0);
            String[] faulty = {
                "1 @1 2 3", "1 @0 2 3", "1 2 @2 3", "1 2 @1 3", "1 2 @0 3", "1 2 3 @3", "1 2 3 @2", "1 2 3 @0", "0 @0 1 2",
                "4 @000004 5 6", "10 @9 11 12", "999999 @999999", "999999 @0", "100 @99",
            };
            for (String numbers : faulty) {
                CHECKS.fault(axis.replace("#", numbers));
            }
        }
        CHECKS.sound("table t : 9 / 8 / 7 ;", 0);
        CHECKS.sound("table t : 1 2 / 1 2 / 9 3 3 0 ;", 0);
        CHECKS.sound("table t : 8 9 / 0 1 / 1 1 1 1 ; table u : 0 1 / 0 1 / 1 1 1 1 ;", 0);
    }

    private static void inBehindOut() {
        CHECKS.sentence("a word in behind an out .. of the cell");
        CHECKS.fault("cell c { out Y = 1 ; @in a ; }");
        CHECKS.fault("cell c { in a ; out Y = a ; @in b ; }");
        CHECKS.fault("cell c { in a ; out Y = a ; drive 1 ; @in b ; }");
        CHECKS.fault("cell c { in a ; out Y = a ; @in a ; }");
        CHECKS.fault("cell c { in a ; out Y = a ; @in ; }");
        CHECKS.sound("cell c { in a ; in b ; drive 1 ; load 2 ; area 3 ; in d ; out Y = a ; } cell d { in a ; out Y = a ; }", 2);
    }

    private static void inBehindPower() {
        CHECKS.sentence("a word in behind .. a power of the cell");
        CHECKS.fault("cell c { power 1 ; @in a ; out Y = a ; }");
        CHECKS.fault("cell c { in a ; power 1 2 ; @in b ; out Y = a ; }");
        CHECKS.fault("cell c { in a ; power 1 2 ; load 1 ; @in b ; out Y = a ; }");
        CHECKS.sound("cell c { in a ; power 1 2 ; out Y = a ; } cell d { in a ; in b ; power 1 2 3 4 ; out Y = a ; }", 2);
    }

    private static void secondTime() {
        CHECKS.sentence("drive, load, area, power for the second time, at that word");
        String[] items = {"drive 0 ;", "load 0 ;", "area 0 ;", "power 0 ;"};
        for (String item : items) {
            CHECKS.fault("cell c { " + item + " @" + item + " out Y = 1 ; }");
            CHECKS.fault("cell c { " + item + " out Y = 1 ; @" + item + " }");
            CHECKS.fault("cell c { out Y = 1 ; " + item + " out Z = 1 ; @" + item.substring(0, item.indexOf(' ')) + " ; }");
            CHECKS.sound("cell c { " + item + " out Y = 1 ; } cell d { " + item + " out Y = 1 ; }", 2);
        }
        CHECKS.fault("cell c { in a ; power 1 2 ; out Y = a ; @power 1 2 ; }");
        CHECKS.sound("cell c { drive 1 ; load 1 ; area 1 ; power 1 ; out Y = 1 ; }", 1);
    }

    private static void secondArc() {
        CHECKS.sentence("an arc's output, if that input has an arc to it already");
        String head = T + "cell c { in a ; in b ; out Y = a ; out Z = b ; arc a Y pos t t ; ";
        CHECKS.fault(head + "arc a @Y pos t t ; }");
        CHECKS.fault(head + "arc a @Y neg t t ; }");
        CHECKS.fault(head + "arc b Y pos t t ; arc a @Y pos t t ; }");
        CHECKS.fault(head + "arc a Z pos t t ; arc a @Z pos t t ; }");
        CHECKS.fault(head + "arc b Y pos t t ; arc b Z pos t t ; arc b @Y pos t t ; }");
        CHECKS.sound(head + "arc a Z pos t t ; arc b Y pos t t ; arc b Z pos t t ; }", 1);
        CHECKS.sound(head + "} cell d { in a ; out Y = a ; arc a Y pos t t ; }", 2);
    }

    private static void noOutput() {
        CHECKS.sentence("a cell's } without an output before");
        CHECKS.fault("cell c { @}");
        CHECKS.fault("cell c { in a ; @}");
        CHECKS.fault("cell c { in a ; drive 1 ; load 1 ; area 1 ; power 1 2 ; @}");
        CHECKS.fault("cell c { out Y = 1 ; } cell d { @}");
        CHECKS.sound("cell c { out Y = 1 ; }", 1);
    }

    private static String many(int from, int to, String form) {
        StringBuilder text = new StringBuilder();
        for (int i = from; i < to; i++) {
            text.append(form.replace("#", "n" + i));
        }
        return text.toString();
    }

    private static void tables() {
        CHECKS.sentence("the name .. of the one too many: 12 tables");
        String form = "table # : 1 / 1 / 1 ; ";
        String twelve = many(0, 12, form);
        CountedLibrary x = new CountedLibrary();
        CHECKS.due("12 tables", Checks.read(x, twelve), 0);
        CHECKS.due("their count", x.count(1), 12);
        CHECKS.fault(twelve + "table @u : 1 / 1 / 1 ;");
        CHECKS.fault(twelve + "table @n11 : 1 / 1 / 1 ;");
        CHECKS.fault(twelve + "table @: 1 / 1 / 1 ;");
        CHECKS.fault(many(0, 11, form) + "table @n10 : 1 / 1 / 1 ;");
        CHECKS.fault(twelve + "table@");
        CHECKS.due("12 tables again", Checks.read(x, twelve), 0);
        CHECKS.due("their count", x.count(1), 12);
        CountedLibrary last = Checks.of(twelve + "cell c{in a;out Y=a;arc a Y pos n11 n0;}");
        CHECKS.due("the last table", last.arc(0, 0, 3), 11);
        CHECKS.due("the first table", last.arc(0, 0, 4), 0);
    }

    private static void cells() {
        CHECKS.sentence("the name .. of the one too many: 12 cells");
        String form = "cell # { out Y = 1 ; } ";
        String twelve = many(0, 12, form);
        CountedLibrary x = new CountedLibrary();
        CHECKS.due("12 cells", Checks.read(x, twelve), 12);
        CHECKS.spelled(x, 11, CellLibrary.NONE, "n11");
        CHECKS.fault(twelve + "cell @u { out Y = 1 ; }");
        CHECKS.fault(twelve + "cell @n11 { out Y = 1 ; }");
        CHECKS.fault(twelve + "cell @{ out Y = 1 ; }");
        CHECKS.fault(many(0, 11, form) + "cell @n10 { out Y = 1 ; }");
        CHECKS.fault(twelve + "cell@");
        CHECKS.sound(twelve + many(0, 12, "table # : 1 / 1 / 1 ; "), 12);
        CHECKS.due("12 cells again", Checks.read(x, twelve), 12);
    }

    private static void inputs() {
        CHECKS.sentence("the name .. of the one too many: 6 inputs");
        CHECKS.sound(SIX + "out Y = g ; }", 1);
        CHECKS.fault(SIX + "in @h ; out Y = g ; }");
        CHECKS.fault(SIX + "in @a ; out Y = g ; }");
        CHECKS.fault(SIX + "in @; out Y = g ; }");
        CHECKS.fault(SIX + "in@");
        CHECKS.fault(SIX + "out Y = g ; @in h ; }");
        CHECKS.sound(SIX + "out Y = g ; } " + SIX.replace("cell c", "cell d") + "out Y = g ; }", 2);
    }

    private static void outputs() {
        CHECKS.sentence("the name .. of the one too many: 3 outputs");
        String three = "out X = 1 ; out Y = 0 ; out Z = 1 ; ";
        CHECKS.sound("cell c { " + three + "}", 1);
        CHECKS.sound(SIX + three + "} cell d { " + three + "}", 2);
        CHECKS.fault("cell c { " + three + "out @W = 1 ; }");
        CHECKS.fault(SIX + three + "out @W = 1 ; }");
        CHECKS.fault("cell c { " + three + "out @Z = 1 ; }");
        CHECKS.fault("cell c { " + three + "out @; }");
        CHECKS.fault("cell c { " + three + "out@");
        CHECKS.fault("cell c { " + three + "@in W ; }");
    }

    private static void arcs() {
        CHECKS.sentence("(of arcs: the word arc) of the one too many: 10 arcs of a cell");
        StringBuilder ten = new StringBuilder(T + SIX + "out X = a ; out Y = b ; ");
        for (int i = 0; i < 10; i++) {
            ten.append("arc ").append("abdefg".charAt(i % 6)).append(i < 6 ? " X" : " Y").append(" pos t t ; ");
        }
        CountedLibrary x = new CountedLibrary();
        CHECKS.due("10 arcs", Checks.read(x, ten + "}"), 1);
        CHECKS.due("their count", x.cell(0, 2), 10);
        CHECKS.due("the input of the last", x.arc(0, 9, 0), 3);
        CHECKS.due("the output of the last", x.arc(0, 9, 1), 1);
        CHECKS.fault(ten + "@arc f Y pos t t ; }");
        CHECKS.fault(ten + "@arc a X pos t t ; }");
        CHECKS.fault(ten + "@arc q ; }");
        CHECKS.fault(ten + "drive 1 ; @arc");
        CHECKS.sound(ten + "drive 1 ; } cell d { in a ; out Y = a ; arc a Y pos t t ; }", 2);
    }

    private static void brackets() {
        CHECKS.sentence("a ( with which 17 would be open");
        String head = "cell c { in a ; in b ; out Y = ";
        CHECKS.sound(head + "(".repeat(16) + "a" + ")".repeat(16) + " ; }", 1);
        CHECKS.fault(head + "(".repeat(16) + "@(a" + ")".repeat(17) + " ; }");
        CHECKS.fault(head + "(".repeat(16) + "@((a" + ")".repeat(18) + " ; }");
        CHECKS.fault(head + "!(".repeat(16) + "a|!!@(b" + ")".repeat(17) + " ; }");
        CHECKS.fault(head + "(a&".repeat(16) + "@(b" + ")".repeat(17) + " ; }");
        CHECKS.fault(head + "(".repeat(16) + "@(");
        CHECKS.fault(head + "(".repeat(16) + "@;");
        // Those that are closed again are not open.
        CHECKS.sound(head + "(".repeat(15) + "(a)|(b)^(a)" + ")".repeat(15) + " ; }", 1);
        CHECKS.sound(head + "(".repeat(16) + "a" + ")".repeat(16) + "&" + "(".repeat(16) + "b" + ")".repeat(16) + " ; }", 1);
        CHECKS.sound(head + "((a))|" + "!(".repeat(16) + "a" + ")".repeat(16) + "^(b) ; }", 1);
        CHECKS.sound(head + "(".repeat(16) + "a" + ")".repeat(16) + " ; out Z = " + "(".repeat(16) + "a" + ")".repeat(16) + " ; }", 1);
        CHECKS.fault(head + "(".repeat(16) + "a" + ")".repeat(16) + "@) ; }");
        CHECKS.fault(head + "(".repeat(16) + "a" + ")".repeat(15) + " @; }");
        CHECKS.fault(head + "(a)|" + "(".repeat(16) + "@(a" + ")".repeat(17) + " ; }");
        CountedLibrary x = Checks.of(head + "a&" + "!(".repeat(16) + "b|0" + ")".repeat(16) + " ; }");
        CHECKS.due("the truth of 16 brackets", x.truth(0, 0), 8);
    }

    private static void firstOfSeveral() {
        CHECKS.sentence("of the first word that cannot stand where it stands");
        CHECKS.fault("cell c { drive @; drive 1 ; in ; }");
        CHECKS.fault("table t : 2 @1 / / ;");
        CHECKS.fault("cell c { in a ; in @a ; out Y = q ; } cell c {");
        CHECKS.fault("cell @abcdefghi ; 1234567");
        CHECKS.fault("cell c { in a ; out Y = ( @q ; } cell c { }");
        CHECKS.fault(T + "cell c { in a ; out Y = a ; arc a Y pos t t ; arc a @Y up u u ; }");
        CHECKS.fault(T + "cell c { in a ; out Y = a ; arc @q q up u u ; }");
        CHECKS.fault("cell c { out Y = 1 ; @in 1234567 ; }");
    }

    private static void placeFromZero() {
        CHECKS.sentence("the place of the first character, from 0, of a word");
        for (int blanks = 0; blanks < 9; blanks++) {
            CHECKS.fault(" ".repeat(blanks) + "@word word");
            CHECKS.fault("\n".repeat(blanks) + "@1234567");
            CHECKS.fault("cell c{" + " ".repeat(blanks) + "@}");
        }
        CHECKS.fault(" ".repeat(1398) + "\n@;");
        CHECKS.fault(" ".repeat(1391) + "@ninechars");
    }
}
