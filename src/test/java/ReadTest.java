/** Promise 4: read, and the text's form. In a faulty text the place due is marked by @. */
final class ReadTest {
    private static final Checks CHECKS = new Checks();
    private static final String T = "table t : 1 / 1 / 1 ; ";
    private static final String[] NUMBERS = {"", "1", "1 2", "1 2 3", "1 2 3 4"};

    public static void main(String[] args) {
        emptyTexts();
        inAnyOrder();
        betweenTablesAndCells();
        formOfTables();
        slopesAndLoads();
        values();
        formOfCells();
        formOfPins();
        amounts();
        amountsNotTold();
        formOfArcs();
        powers();
        formOfExpressions();
        justTheseDigits();
        nots();
        endsTooSoon();
        endsBetweenWords();
        howManyCells();
        CHECKS.finish();
    }

    private static void emptyTexts() {
        CHECKS.sentence("text: tables and cells, .. none perhaps");
        String[] texts = {"", " ", "\n", " \n \n ", " ".repeat(1400)};
        for (String text : texts) {
            CHECKS.sound(text, 0);
            CountedLibrary x = Checks.of("cell c{out Y=1;}" + T);
            CHECKS.due("an empty text in place of what was there", Checks.read(x, text), 0);
            CHECKS.due("no cells then", x.count(0), 0);
            CHECKS.due("no tables then", x.count(1), 0);
            CHECKS.index("no cell then", () -> x.cell(0, 0));
        }
        CHECKS.sound(T, 0);
        CHECKS.sound("cell c { out Y = 1 ; }", 1);
    }

    private static void inAnyOrder() {
        CHECKS.sentence("tables and cells, in any order, one behind the other");
        CHECKS.sound("cell a{out Y=1;}table a:1/1/1;cell b{out a=0;}", 2);
        CHECKS.sound("table a:1/1/1;table b:1/1/1;cell a{out Y=1;}cell b{out a=0;}", 2);
        CHECKS.sound("cell a{out Y=1;}cell b{out a=0;}table a:1/1/1;table b:1/1/1;", 2);
        CountedLibrary x = Checks.of("cell a{out Y=1;}table a:1/1/3;cell b{in i;out Y=i;arc i Y pos a a;}table b:1/1/4;"
            + "cell c{in i;out Y=i;arc i Y pos b a;}");
        CHECKS.due("tables", x.count(1), 2);
        CHECKS.due("the table told between", x.delay(1, 0, 0, 0, true), 3);
        CHECKS.due("the table told last", x.delay(2, 0, 0, 0, true), 4);
    }

    private static void betweenTablesAndCells() {
        CHECKS.sentence("the first word that cannot stand where it stands, in the text");
        CHECKS.fault("@x");
        CHECKS.fault("@;");
        CHECKS.fault("@1");
        CHECKS.fault(" \n @tables t : 1 / 1 / 1 ;");
        CHECKS.fault(T + "@} cell c { out Y = 1 ; }");
        CHECKS.fault(T + "@; cell c { out Y = 1 ; }");
        CHECKS.fault("cell c { out Y = 1 ; } @;");
        CHECKS.fault("cell c { out Y = 1 ; } @}");
        CHECKS.fault("cell c { out Y = 1 ; } @in a ;");
    }

    private static void formOfTables() {
        CHECKS.sentence("table N : n n .. / n n .. / n n .. ;");
        CHECKS.fault("table @: 1 / 1 / 1 ;");
        CHECKS.fault("table @1 : 1 / 1 / 1 ;");
        CHECKS.fault("table t @1 / 1 / 1 ;");
        CHECKS.fault("table t @= 1 / 1 / 1 ;");
        CHECKS.fault("table t : 1 @; 1 / 1 ;");
        CHECKS.fault("table t : 1 @: 1 / 1 ;");
        CHECKS.fault("table t : 1 / 1 @; 1 ;");
        CHECKS.fault("table t : @a / 1 / 1 ;");
        CHECKS.fault("table t : 1 / @a / 1 ;");
        CHECKS.fault("table t : 1 / 1 / @a ;");
        CHECKS.fault("table t : 1 / 1 / 1 @}");
        CHECKS.fault("table t : 1 / 1 / 1 @/ 1 ;");
    }

    private static void slopesAndLoads() {
        CHECKS.sentence("SLOPES, LOADS (1 to 4 of each, rising)");
        for (int n = 1; n <= 4; n++) {
            CHECKS.sound("table t : " + NUMBERS[n] + " / 1 / " + NUMBERS[n] + " ;", 0);
            CHECKS.sound("table t : 1 / " + NUMBERS[n] + " / " + NUMBERS[n] + " ;", 0);
        }
        CHECKS.fault("table t : @/ 1 / 1 ;");
        CHECKS.fault("table t : 1 / @/ 1 ;");
        CHECKS.fault("table t : 1 2 3 4 @5 / 1 / 1 2 3 4 5 ;");
        CHECKS.fault("table t : 1 / 1 2 3 4 @5 / 1 2 3 4 5 ;");
        CHECKS.fault("table t : 1 2 3 4 @4 / 1 / 1 2 3 4 5 ;");
    }

    private static void values() {
        CHECKS.sentence("VALUES: as many as slopes times loads");
        for (int slopes = 1; slopes <= 4; slopes++) {
            for (int loads = 1; loads <= 4; loads++) {
                String axes = "table t : " + NUMBERS[slopes] + " / " + NUMBERS[loads] + " /";
                int many = slopes * loads;
                CHECKS.sound(axes + " 7".repeat(many) + " ;", 0);
                CHECKS.fault(axes + " 7".repeat(many - 1) + " @;");
                CHECKS.fault(axes + " 7".repeat(many) + " @7 ;");
                CHECKS.fault(axes + " @;");
            }
        }
    }

    private static void formOfCells() {
        CHECKS.sentence("cell N { items }");
        CHECKS.fault("cell @{ out Y = 1 ; }");
        CHECKS.fault("cell @1 { out Y = 1 ; }");
        CHECKS.fault("cell c @out Y = 1 ; }");
        CHECKS.fault("cell c @( out Y = 1 ; )");
        CHECKS.fault("cell c { @; out Y = 1 ; }");
        CHECKS.fault("cell c { @1 out Y = 1 ; }");
        CHECKS.fault("cell c { out Y = 1 ; @table t : 1 / 1 / 1 ; }");
        CHECKS.fault("cell c { out Y = 1 ; @cell d { out Y = 1 ; } }");
        CHECKS.fault("cell c { out Y = 1 @}");
        CHECKS.fault("cell c { in a @}");
        CHECKS.fault("cell c { drive 1 @}");
    }

    private static void formOfPins() {
        CHECKS.sentence("in N ; out N = exp ;");
        CHECKS.fault("cell c { in @; out Y = 1 ; }");
        CHECKS.fault("cell c { in @1 ; out Y = 1 ; }");
        CHECKS.fault("cell c { in a @, b ; out Y = 1 ; }");
        CHECKS.fault("cell c { in a @b ; out Y = 1 ; }");
        CHECKS.fault("cell c { in a @= 1 ; out Y = 1 ; }");
        CHECKS.fault("cell c { out @= 1 ; }");
        CHECKS.fault("cell c { out @1 = 1 ; }");
        CHECKS.fault("cell c { out Y @1 ; }");
        CHECKS.fault("cell c { out Y @; }");
        CHECKS.sound("cell c { in a ; drive 1 ; in b ; load 1 ; in d ; area 1 ; out Y = a ; }", 1);
    }

    private static void amounts() {
        CHECKS.sentence("drive n ; load n ; area n ;");
        String[] amounts = {"drive", "load", "area"};
        for (int i = 0; i < amounts.length; i++) {
            CHECKS.fault("cell c { " + amounts[i] + " @; out Y = 1 ; }");
            CHECKS.fault("cell c { " + amounts[i] + " @a ; out Y = 1 ; }");
            CHECKS.fault("cell c { " + amounts[i] + " 1 @2 ; out Y = 1 ; }");
            int[] numbers = {0, 1, 999998, 999999};
            for (int n : numbers) {
                CountedLibrary x = Checks.of("cell c { out Y = 1 ; " + amounts[i] + " " + n + " ; }");
                for (int what = 3; what < 6; what++) {
                    CHECKS.due(amounts[i] + " " + n + ", what " + what, x.cell(0, what), what == 3 + i ? n : 0);
                }
            }
        }
    }

    private static void amountsNotTold() {
        CHECKS.sentence("each once at most (0 without)");
        CountedLibrary x = Checks.of("cell c { drive 1 ; load 2 ; area 3 ; out Y = 1 ; } cell d { out Y = 1 ; }");
        for (int what = 3; what < 6; what++) {
            CHECKS.due("told, what " + what, x.cell(0, what), what - 2);
            CHECKS.due("not told, what " + what, x.cell(1, what), 0);
        }
    }

    private static void formOfArcs() {
        CHECKS.sentence("arc I O S R F ; from an input to an output, S is pos, neg or both");
        String head = T + "cell c { in a ; in b ; out Y = a ; out Z = b ; ";
        CHECKS.sound(head + "arc a Y pos t t ; arc a Z neg t t ; arc b Y both t t ; arc b Z pos t t ; }", 1);
        String[] faulty = {
            "arc @; }", "arc @Y a pos t t ; }", "arc @1 Y pos t t ; }", "arc @t Y pos t t ; }", "arc @c Y pos t t ; }",
            "arc a @; }", "arc a @b pos t t ; }", "arc a @a pos t t ; }", "arc a @1 pos t t ; }", "arc a @t pos t t ; }",
            "arc a Y @; }", "arc a Y @up t t ; }", "arc a Y @1 t t ; }", "arc a Y @t t ; }", "arc a Y @po t t ; }",
            "arc a Y @poss t t ; }", "arc a Y @Pos t t ; }", "arc a Y @ne t t ; }", "arc a Y @bot t t ; }", "arc a Y @boths t t ; }",
            "arc a Y pos @; }", "arc a Y pos @1 t ; }", "arc a Y pos @c t ; }", "arc a Y pos @a t ; }",
            "arc a Y pos t @; }", "arc a Y pos t @1 ; }", "arc a Y pos t t @t ; }", "arc a Y pos t t @}",
        };
        for (String arc : faulty) {
            CHECKS.fault(head + arc);
        }
    }

    private static void powers() {
        CHECKS.sentence("power n n .. ; as many numbers as there are STATES of the inputs told by then");
        StringBuilder head = new StringBuilder("cell c { ");
        for (int inputs = 0; inputs <= 6; inputs++) {
            int states = 1 << inputs;
            CHECKS.sound(head + "power" + " 1".repeat(states) + " ; out Y = 1 ; }", 1);
            CHECKS.sound(head + "out Y = 1 ; power" + " 1".repeat(states) + " ; }", 1);
            CHECKS.fault(head + "power" + " 1".repeat(states - 1) + " @; out Y = 1 ; }");
            CHECKS.fault(head + "power" + " 1".repeat(states) + " @1 ; out Y = 1 ; }");
            CHECKS.fault(head + "power @; out Y = 1 ; }");
            CHECKS.fault(head + "power" + " 1".repeat(states - 1) + " @a ; out Y = 1 ; }");
            head.append("in ").append((char) ('a' + inputs)).append(" ; ");
        }
    }

    private static void formOfExpressions() {
        CHECKS.sentence("exp: xor { | xor }. xor: and { ^ and }. and: not { & not }. not: ! not, or a primary.");
        String head = "cell c { in a ; in b ; out X = 1 ; out Y = ";
        String[] sound = {"a", "0", "1", "!a", "!!!a", "(a)", "((a|b))", "a|b", "a&b^a|b", "!(a&b)^!(!a)", "! ( a )", "(0)", "!1"};
        for (String exp : sound) {
            CHECKS.sound(head + exp + " ; }", 1);
        }
        String[] faulty = {
            "@;", "@)", "(@)", "a @a", "a @!b", "a @(b)", "a @1", "1 @a", "a | @;", "a | @| b", "a @)", "(a @;", "(a @b)",
            "!@;", "!@)", "!@& a", "a & @& b", "@& a", "@| a", "@^ a", "a ^ @^ b", "a & @| b", "((a) @;", "(a)@)", "(a)@(b)",
            "@=", "a @= b", "a @+ b", "(a | @)", "a @~", "@.", "1@.", "(a @}", "a @}",
        };
        for (String exp : faulty) {
            CHECKS.fault(head + exp + " ; }");
        }
    }

    private static void justTheseDigits() {
        CHECKS.sentence("primary: an input's N, 0, 1 (just these digits)");
        String head = "cell c { in a ; out Y = ";
        String[] faulty = {"@2", "@9", "@00", "@01", "@10", "@11", "@000000", "@000001", "@0000000", "@1111111", "a | @01", "!@00", "(@10)"};
        for (String exp : faulty) {
            CHECKS.fault(head + exp + " ; }");
        }
        CHECKS.fault(head + "0 @0 ; }");
        CHECKS.fault(head + "0@a ; }");
        CHECKS.due("0", Checks.of(head + "0 ; }").truth(0, 0), 0);
        CHECKS.due("1", Checks.of(head + "1 ; }").truth(0, 0), 3);
    }

    private static void nots() {
        CHECKS.sentence("not: ! not, or a primary (no bound is told)");
        String head = "cell c { in a ; out Y = ";
        int[] many = {0, 1, 2, 17, 40, 41, 300, 1369, 1370};
        for (int n : many) {
            CountedLibrary x = new CountedLibrary();
            CHECKS.due(n + " nots", Checks.read(x, head + "!".repeat(n) + "a;}"), 1);
            CHECKS.due("the truth behind " + n + " nots", x.truth(0, 0), n % 2 == 0 ? 2 : 1);
        }
        CHECKS.fault(head + "!".repeat(600) + "@;}");
        CHECKS.sound(head + "(a)|".repeat(100) + "a;}", 1);
        CHECKS.sound(head + "a^".repeat(600) + "a;}", 1);
    }

    private static void endsTooSoon() {
        CHECKS.sentence("if the text ends too soon, its length");
        String text = "table t : 1 2 / 1 / 1 2 ; cell c { in a ; out Y = ! ( a & 1 ^ 0 | a ) ; drive 1 ; load 2 ; area 3 ;"
            + " arc a Y both t t ; power 1 2 ; }";
        int tableEnd = text.indexOf(';') + 1;
        CHECKS.sound(text.substring(0, tableEnd), 0);
        CHECKS.sound(text, 1);
        for (int cut = 1; cut < text.length(); cut++) {
            if (text.charAt(cut) == ' ' && cut != tableEnd) {
                String begun = text.substring(0, cut);
                CHECKS.fault(begun + "@");
                CHECKS.fault(begun + " @");
                CHECKS.fault(begun + "\n@");
                CHECKS.fault(begun + " \n  @");
            }
        }
        CHECKS.fault("cell@");
        CHECKS.fault("table@");
        String longest = "cell c{out Y=1;";
        CHECKS.due("a full tape that ends too soon", Checks.read(new CountedLibrary(), longest + " ".repeat(1400 - longest.length())), -1401);
        CHECKS.due("one less", Checks.read(new CountedLibrary(), longest + " ".repeat(1399 - longest.length())), -1400);
    }

    private static void endsBetweenWords() {
        CHECKS.sentence("if the text ends too soon: a word that is cut is another word");
        CHECKS.fault("@cel");
        CHECKS.fault("@tabl");
        CHECKS.fault("cell c{@ou");
        CHECKS.fault("cell c{out Y=1;@driv");
        CHECKS.fault("cell c{out Y=1;drive 1@");
        CHECKS.fault("cell c{out Y=1;drive 12@");
        CHECKS.fault("cell c{in abc@");
        CHECKS.fault("cell c{in abc;out Y=@ab");
        CHECKS.fault(T + "cell c{in a;out Y=a;arc a Y @po");
        CHECKS.fault("cell c{in @abcdefghi");
        CHECKS.fault("cell c{drive @1234567");
    }

    private static void howManyCells() {
        CHECKS.sentence("in place of what was there: how many cells; -1 less the fault: then that stays");
        CountedLibrary x = Checks.of(T + "cell OLD { in a ; out Y = !a ; drive 5 ; load 6 ; area 7 ; power 8 9 ; arc a Y neg t t ; }");
        String faulty = "table u : 1 / 1 / 1 ; table v : 2 / 2 / 2 ; cell NEW { in b ; in c ; out Z = b ; drive 1 ; } cell";
        CHECKS.due("a fault", Checks.read(x, faulty), -1 - faulty.length());
        long[] due = {1, 1, 1, 5, 6, 7, 0, 27};
        for (int what = 0; what < due.length; what++) {
            CHECKS.due("cell stays, what " + what, x.cell(0, what), due[what]);
        }
        CHECKS.spelled(x, 0, CellLibrary.NONE, "OLD");
        CHECKS.due("truth stays", x.truth(0, 0), 1);
        CHECKS.due("power stays", x.power(0, 1), 9);
        CHECKS.due("tables stay", x.count(1), 1);
        CHECKS.due("delay stays", x.delay(0, 0, 1, 1, true), 1);
        CHECKS.due("a new text", Checks.read(x, "cell A { out Y = 1 ; } cell B { in a ; out Y = a ; }"), 2);
        CHECKS.due("no tables now", x.count(1), 0);
        CHECKS.due("a third text, on rows used before", Checks.read(x, "cell A { in a ; out Y = a ; }"), 1);
        for (int what = 2; what < 7; what++) {
            CHECKS.due("nothing left of older texts, what " + what, x.cell(0, what), 0);
        }
        CHECKS.due("no power left", x.power(0, 1), 0);
        CHECKS.due("an empty text", x.read(), 0);
        CHECKS.due("no cells now", x.count(0), 0);
        CHECKS.due("a fault in the first character", Checks.read(x, "#"), -1);
        CHECKS.due("a fault in the second", Checks.read(x, " #"), -2);
    }
}
