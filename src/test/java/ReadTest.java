/** Promise 4: read, and the place of the first fault. In a faulty text the place due is marked by @. */
final class ReadTest {
    private static final Checks CHECKS = new Checks();
    private static final String T = "table t : 1 / 1 / 1 ; ";

    public static void main(String[] args) {
        texts();
        words();
        faultsOfTheText();
        faultsOfTables();
        faultsOfCells();
        faultsOfPins();
        faultsOfItems();
        faultsOfArcs();
        faultsOfExpressions();
        tooMany();
        endsTooSoon();
        whatStays();
        CHECKS.finish();
    }

    private static void texts() {
        CHECKS.sound("", 0);
        CHECKS.sound(" \n ", 0);
        CHECKS.sound(T, 0);
        CHECKS.sound("cell c { out Y = 1 ; }", 1);
        CHECKS.sound("cell a{out Y=1;}table a:1/1/1;cell b{out a=0;}", 2);
        CHECKS.sound("cell\nc\n{\nin\na\n;\nout\nY\n=\na\n;\n}\n", 1);
        CHECKS.sound("table table : 1 / 1 / 1 ; table pos : 1 / 1 / 1 ; cell cell { in in ; in out ; in drive ; "
            + "out arc = in & out ^ drive ; out power = 1 ; arc in arc both table pos ; arc out power pos pos table ; }"
            + " cell table { in cell ; in neg ; out both = neg | cell ; load 1 ; } cell load { in area ; in load ;"
            + " in power ; in pos ; out c = area | load | power | pos ; power 1 2 3 4 5 6 7 8 9 10 11 12 13 14 15 16 ; }", 3);
        CHECKS.sound("cell c { area 1 ; power 5 ; load 2 ; out Y = 1 ; drive 3 ; }", 1);
        CHECKS.sound("cell c { in c ; out d = c ; } cell d { in c ; out d = c ; }", 2);
    }

    private static void words() {
        CHECKS.sound("cell abcdefgh { out _2345678 = 1 ; drive 999999 ; }", 1);
        CHECKS.sound("cell _{out _=1;drive 000000;}", 1);
        CHECKS.sound("cell c { in a1 ; out Y = a1 ; } ", 1);
        CHECKS.fault("cell @abcdefghi { out Y = 1 ; }");
        CHECKS.fault("cell c { drive @1234567 ; out Y = 1 ; }");
        CHECKS.fault("cell c { drive @0000001 ; out Y = 1 ; }");
        CHECKS.fault("cell c { drive 12@ab ; out Y = 1 ; }");
        CHECKS.fault("cell @1c { out Y = 1 ; }");
        CHECKS.fault("@cellc { out Y = 1 ; }");
        CHECKS.fault("cell c { @in1 ; out Y = 1 ; }");
        CHECKS.fault("cell c { @In a ; out Y = 1 ; }");
        CHECKS.fault("cell c { out Y = 0@1 ; }".replace("0@1", "@01"));
        CHECKS.fault("cell c { in a ; out Y = a @abcdefghi ; }");
        CHECKS.fault("table t : 1 / 1 / @1234567 ;");
        CHECKS.fault("table t : 1 / 1 / 1 @1234567 ;");
        CHECKS.fault("table t : 1 2 3 4 @1234567 / 1 / 1 ;");
    }

    private static void faultsOfTheText() {
        CHECKS.fault("@x");
        CHECKS.fault("@;");
        CHECKS.fault("@1");
        CHECKS.fault(" \n @tables t : 1 / 1 / 1 ;");
        CHECKS.fault(T + "@} cell c { out Y = 1 ; }");
        CHECKS.fault("cell c { out Y = 1 ; } @;");
        CHECKS.fault("cell c { out Y = 1 ; } @in a ;");
    }

    private static void faultsOfTables() {
        CHECKS.fault("table @: 1 / 1 / 1 ;");
        CHECKS.fault("table t @1 / 1 / 1 ;");
        CHECKS.fault("table t : @/ 1 / 1 ;");
        CHECKS.fault("table t : 1 / @/ 1 ;");
        CHECKS.fault("table t : 1 / 1 / @;");
        CHECKS.fault("table t : 1 @; 1 / 1 ;");
        CHECKS.fault("table t : @a / 1 / 1 ;");
        CHECKS.fault("table t : 1 / 1 / 1 @}");
        CHECKS.fault("table t : 1 2 3 4 @5 / 1 / 1 ;");
        CHECKS.fault("table t : 1 / 1 2 3 4 @5 / 1 ;");
        CHECKS.sound("table t : 1 2 3 4 / 1 2 3 4 / 1 2 3 4 5 6 7 8 9 1 2 3 4 5 6 7 ;", 0);
        CHECKS.fault("table t : 1 2 3 4 / 1 2 3 4 / 1 2 3 4 5 6 7 8 9 1 2 3 4 5 6 @;");
        CHECKS.fault("table t : 1 2 3 4 / 1 2 3 4 / 1 2 3 4 5 6 7 8 9 1 2 3 4 5 6 7 @8 ;");
        CHECKS.fault("table t : 1 2 / 1 / 1 @;");
        CHECKS.fault("table t : 1 / 1 / 1 @2 ;");
        CHECKS.fault("table t : 1 @1 / 1 / 1 1 ;");
        CHECKS.fault("table t : 1 2 @1 / 1 / 1 1 ;");
        CHECKS.fault("table t : 1 / 3 @2 / 1 1 ;");
        CHECKS.fault("table t : 7 / 3 4 @0004 / 1 1 1 ;");
        CHECKS.sound("table t : 0 1 / 0 / 9 3 ;", 0);
        CHECKS.fault("table t : 1 / 1 / 1 ; table @t : 1 / 1 / 1 ;");
        CHECKS.fault("table t : 1 / 1 / 1 ; cell t { out t = 1 ; } table @t : 1 / 1 / 1 ;");
    }

    private static void faultsOfCells() {
        CHECKS.fault("cell @{ out Y = 1 ; }");
        CHECKS.fault("cell c @out Y = 1 ; }");
        CHECKS.fault("cell c { @}");
        CHECKS.fault("cell c { in a ; drive 1 ; power 1 2 ; @}");
        CHECKS.fault("cell c { @; out Y = 1 ; }");
        CHECKS.fault("cell c { out Y = 1 ; @table t : 1 / 1 / 1 ; }");
        CHECKS.fault("cell c { out Y = 1 ; } cell @c { out Y = 1 ; }");
        CHECKS.fault("cell c { out Y = 1 @}");
        CHECKS.fault("cell c { in a @} ");
    }

    private static void faultsOfPins() {
        CHECKS.fault("cell c { in @; out Y = 1 ; }");
        CHECKS.fault("cell c { in a @, b ; out Y = 1 ; }");
        CHECKS.fault("cell c { in a @b ; out Y = 1 ; }");
        CHECKS.fault("cell c { in a ; in @a ; out Y = 1 ; }");
        CHECKS.fault("cell c { in a ; out @a = 1 ; }");
        CHECKS.fault("cell c { out Y = 1 ; out @Y = 1 ; }");
        CHECKS.fault("cell c { out Y = 1 ; @in Y ; }");
        CHECKS.fault("cell c { in a ; out Y = a ; @in b ; }");
        CHECKS.fault("cell c { power 1 ; @in a ; out Y = a ; }");
        CHECKS.fault("cell c { out @= 1 ; }");
        CHECKS.fault("cell c { out Y @1 ; }");
        CHECKS.sound("cell c { in a ; drive 1 ; in b ; load 1 ; in d ; area 1 ; out Y = a ; }", 1);
    }

    private static void faultsOfItems() {
        String[] amounts = {"drive", "load", "area"};
        for (String amount : amounts) {
            CHECKS.fault("cell c { " + amount + " @; out Y = 1 ; }");
            CHECKS.fault("cell c { " + amount + " @a ; out Y = 1 ; }");
            CHECKS.fault("cell c { " + amount + " 1 @2 ; out Y = 1 ; }");
            CHECKS.fault("cell c { " + amount + " 0 ; out Y = 1 ; @" + amount + " 0 ; }");
        }
        CHECKS.fault("cell c { power @; out Y = 1 ; }");
        CHECKS.fault("cell c { in a ; power 1 @; out Y = a ; }");
        CHECKS.fault("cell c { in a ; power 1 2 @3 ; out Y = a ; }");
        CHECKS.fault("cell c { in a ; in b ; power 1 2 3 @; out Y = a ; }");
        CHECKS.fault("cell c { in a ; power 1 2 ; @power 1 2 ; out Y = a ; }");
        CHECKS.sound("cell c { in a ; in b ; in c ; in d ; in e ; in f ; out Y = a ; power" + " 1".repeat(64) + " ; }", 1);
        CHECKS.fault("cell c { in a ; in b ; in c ; in d ; in e ; in f ; out Y = a ; power" + " 1".repeat(63) + " @; }");
        CHECKS.fault("cell c { in a ; in b ; in c ; in d ; in e ; in f ; out Y = a ; power" + " 1".repeat(64) + " @1 ; }");
    }

    private static void faultsOfArcs() {
        String head = T + "cell c { in a ; in b ; out Y = a ; out Z = b ; ";
        CHECKS.sound(head + "arc a Y pos t t ; arc a Z neg t t ; arc b Y both t t ; arc b Z pos t t ; }", 1);
        CHECKS.fault(head + "arc @Y a pos t t ; }");
        CHECKS.fault(head + "arc @q Y pos t t ; }");
        CHECKS.fault(head + "arc @1 Y pos t t ; }");
        CHECKS.fault(head + "arc a @b pos t t ; }");
        CHECKS.fault(head + "arc a @a pos t t ; }");
        CHECKS.fault(head + "arc a @; }");
        CHECKS.fault(head + "arc a Y @up t t ; }");
        CHECKS.fault(head + "arc a Y @1 t t ; }");
        CHECKS.fault(head + "arc a Y pos @u t ; }");
        CHECKS.fault(head + "arc a Y pos t @u ; }");
        CHECKS.fault(head + "arc a Y pos t @; }");
        CHECKS.fault(head + "arc a Y pos t t @t ; }");
        CHECKS.fault(head + "arc a Y pos @c t ; }");
        CHECKS.fault(head + "arc a Y pos t t ; arc b Y pos t t ; arc a @Y neg t t ; }");
        CHECKS.fault("cell c { in a ; arc a @Y pos t t ; out Y = a ; }");
        CHECKS.fault("cell c { in a ; out Y = a ; arc a Y pos @t t ; } table t : 1 / 1 / 1 ;");
    }

    private static void faultsOfExpressions() {
        String head = "cell c { in a ; in b ; out X = 1 ; out Y = ";
        String[] sound = {"a", "0", "1", "!a", "!!!a", "(a)", "((a|b))", "a|b", "a&b^a|b", "!(a&b)^!(!a)", "! ( a )"};
        for (String exp : sound) {
            CHECKS.sound(head + exp + " ; }", 1);
        }
        String[] faulty = {
            "@;", "@)", "(@)", "a @a", "a @!b", "a @(b)", "a @1", "1 @a", "a | @;", "a | @| b", "a @)", "(a @;", "(a @b)",
            "!@;", "a & @& b", "@& a", "a ^ @^ b", "((a) @;", "(a)@)", "@2", "@00", "@01", "@11", "@10", "@X", "@Y",
            "@q", "@=", "a @= b", "a @+ b", "a | @Y", "(a | (b ^ @X))", "a @~", "@.", "1@.",
        };
        for (String exp : faulty) {
            CHECKS.fault(head + exp + " ; }");
        }
        CHECKS.sound(head + "(".repeat(16) + "a" + ")".repeat(16) + " ; }", 1);
        CHECKS.fault(head + "(".repeat(16) + "@(a" + ")".repeat(17) + " ; }");
        CHECKS.sound(head + "((a))|" + "!(".repeat(16) + "a" + ")".repeat(16) + "^(b) ; }", 1);
        CHECKS.fault(head + "!(".repeat(16) + "a|!!@(b" + ")".repeat(17) + " ; }");
        CHECKS.sound(head + "(a)|".repeat(40) + "a ; }", 1);
        CHECKS.sound(head + "!".repeat(1300) + "a ; }", 1);
    }

    private static void tooMany() {
        StringBuilder tables = new StringBuilder();
        StringBuilder cells = new StringBuilder();
        for (int i = 0; i < 12; i++) {
            tables.append("table t").append(i).append(" : 1 / 1 / 1 ; ");
            cells.append("cell t").append(i).append(" { out Y = 1 ; } ");
        }
        CHECKS.sound(tables.toString() + cells, 12);
        CHECKS.fault(tables + "table @u : 1 / 1 / 1 ;");
        CHECKS.fault(cells + "cell @u { out Y = 1 ; }");
        CHECKS.fault(cells + "cell @t0 { out Y = 1 ; }");
        String inputs = "cell c { in a ; in b ; in c ; in d ; in e ; in f ; ";
        CHECKS.sound(inputs + "out X = a ; out Y = b ; out Z = f ; }", 1);
        CHECKS.fault(inputs + "in @g ; out X = a ; }");
        CHECKS.fault(inputs + "in @; out X = a ; }");
        CHECKS.fault(inputs + "out X = a ; out Y = b ; out Z = f ; out @W = a ; }");
        CHECKS.fault(inputs + "out X = a ; out Y = b ; out Z = f ; @in g ; }");
        StringBuilder arcs = new StringBuilder(T + inputs + "out X = a ; out Y = b ; ");
        for (int i = 0; i < 10; i++) {
            arcs.append("arc ").append("abcdef".charAt(i % 6)).append(i < 6 ? " X" : " Y").append(" pos t t ; ");
        }
        CHECKS.sound(arcs + "}", 1);
        CHECKS.fault(arcs + "@arc f Y pos t t ; }");
        CHECKS.fault(arcs + "@arc a X pos t t ; }");
        CHECKS.fault(arcs + "drive 1 ; @arc q ; }");
    }

    private static void endsTooSoon() {
        String text = "table t : 1 2 / 1 / 1 2 ; cell c { in a ; out Y = ! ( a & 1 ) ; drive 1 ; arc a Y both t t ; power 1 2 ; }";
        int tableEnd = text.indexOf(';') + 1;
        for (int cut = 1; cut < text.length(); cut++) {
            if (text.charAt(cut) == ' ' && cut != tableEnd) {
                CHECKS.fault(text.substring(0, cut) + "@");
                CHECKS.fault(text.substring(0, cut) + " \n @");
            }
        }
        CHECKS.sound(text.substring(0, tableEnd), 0);
        CHECKS.sound(text, 1);
        CHECKS.fault("cell@");
        CHECKS.fault("table @");
    }

    private static void whatStays() {
        CellLibrary x = Checks.of(T + "cell OLD { in a ; out Y = !a ; drive 5 ; load 6 ; area 7 ; power 8 9 ; arc a Y neg t t ; }");
        String faulty = "table u : 1 / 1 / 1 ; table v : 2 / 2 / 2 ; cell NEW { in b ; in c ; out Z = b ; drive 1 ; } cell";
        CHECKS.due("a fault", Checks.read(x, faulty), -1 - faulty.length());
        long[] due = {1, 1, 1, 5, 6, 7, 0, 27};
        for (int what = 0; what < due.length; what++) {
            CHECKS.due("cell stays, what " + what, x.cell(0, what), due[what]);
        }
        CHECKS.due("letter stays", x.letter(0, -1, 0), 'O');
        CHECKS.due("truth stays", x.truth(0, 0), 1);
        CHECKS.due("power stays", x.power(0, 1), 9);
        CHECKS.due("tables stay", x.count(1), 1);
        CHECKS.due("delay stays", x.delay(0, 0, 1, 1, true), 1);
        CHECKS.due("a new text", Checks.read(x, "cell A { out Y = 1 ; } cell B { in a ; out Y = a ; }"), 2);
        CHECKS.due("no tables now", x.count(1), 0);
        CHECKS.due("a third text, on rows used before", Checks.read(x, "cell A { in a ; out Y = a ; }"), 1);
        for (int what = 2; what < 7; what++) {
            CHECKS.due("nothing left of older texts, what " + what, x.cell(0, what), 0);
        }
        CHECKS.due("no power left", x.power(0, 1), 0);
        CHECKS.due("an empty text", x.read(), 0);
        CHECKS.due("no cells now", x.count(0), 0);
    }
}
