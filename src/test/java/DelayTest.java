/** Promise 9: delay; and how a table is JOINED. */
final class DelayTest {
    private static final Checks CHECKS = new Checks();
    private static final int MOST = 1000000;

    public static void main(String[] args) {
        atItsNumbers();
        between();
        belowTheFirst();
        aboveTheLast();
        spanBegins();
        lastButOne();
        oneNumber();
        roundedDown();
        loadsFirst();
        greatNumbers();
        riseAndFall();
        slopeBySlope();
        rangeOfSlopeAndLoad();
        namedFirst();
        outside();
        CHECKS.finish();
    }

    private static CountedLibrary library(String table) {
        return Checks.of("table t : " + table + " ; table u : 7 / 3 / 42 ; cell c { in a ; out Y = a ; arc a Y pos t u ; }");
    }

    private static void due(CountedLibrary x, int slope, int load, int want) {
        CHECKS.due("delay at " + slope + ", " + load, x.delay(0, 0, slope, load, true), want);
        CHECKS.due("delay of what falls at " + slope + ", " + load, x.delay(0, 0, slope, load, false), 42);
    }

    private static CountedLibrary threeByThree() {
        return library("10 20 40 / 1 5 9 / 100 200 400  300 500 900  0 8 80");
    }

    private static void atItsNumbers() {
        CHECKS.sentence("A table JOINED at a slope and a load");
        CountedLibrary x = threeByThree();
        int[] slopes = {10, 20, 40};
        int[] loads = {1, 5, 9};
        int[] values = {100, 200, 400, 300, 500, 900, 0, 8, 80};
        for (int s = 0; s < 3; s++) {
            for (int l = 0; l < 3; l++) {
                due(x, slopes[s], loads[l], values[3 * s + l]);
            }
        }
    }

    private static void between() {
        CHECKS.sentence("MIXED between two values v and w at numbers a and b, at x");
        CountedLibrary x = threeByThree();
        due(x, 10, 3, 150);
        due(x, 10, 8, 350);
        due(x, 15, 1, 200);
        due(x, 15, 3, 275);
        due(x, 30, 5, 254);
        due(x, 30, 7, 372);
        due(x, 11, 1, 120);
        due(x, 19, 1, 280);
        due(x, 21, 1, 285);
        due(x, 39, 1, 15);
        due(x, 10, 2, 125);
        due(x, 10, 4, 175);
        due(x, 10, 6, 250);
    }

    private static void belowTheFirst() {
        CHECKS.sentence("each is brought to its axis (not below its first number");
        CountedLibrary x = threeByThree();
        due(x, 0, 1, 100);
        due(x, 9, 1, 100);
        due(x, 10, 1, 100);
        due(x, 11, 1, 120);
        due(x, 10, 0, 100);
        due(x, 9, 0, 100);
        due(x, 0, 0, 100);
        due(x, 0, 9, 400);
        due(x, 40, 0, 0);
        due(x, 0, 3, 150);
        due(x, 15, 0, 200);
    }

    private static void aboveTheLast() {
        CHECKS.sentence("not above its last one)");
        CountedLibrary x = threeByThree();
        due(x, 39, 9, 121);
        due(x, 40, 9, 80);
        due(x, 41, 9, 80);
        due(x, 40, 8, 62);
        due(x, 40, 10, 80);
        due(x, 41, 10, 80);
        due(x, MOST, 9, 80);
        due(x, 40, MOST, 80);
        due(x, MOST, MOST, 80);
        due(x, 0, MOST, 400);
        due(x, MOST, 0, 0);
        due(x, MOST, 3, 4);
        due(x, 15, MOST, 650);
    }

    private static void spanBegins() {
        CHECKS.sentence("its SPAN begins at the last number not above it");
        CountedLibrary loads = library("0 / 10 20 30 40 / 0 1000 0 500");
        int[][] due = {{10, 0}, {11, 100}, {19, 900}, {20, 1000}, {21, 900}, {29, 100}, {30, 0}, {31, 50}, {39, 450}, {40, 500}};
        for (int[] row : due) {
            due(loads, 0, row[0], row[1]);
        }
        CountedLibrary slopes = library("10 20 30 40 / 0 / 0 1000 0 500");
        for (int[] row : due) {
            due(slopes, row[0], 0, row[1]);
        }
    }

    private static void lastButOne() {
        CHECKS.sentence("but at the last but one at most");
        for (int n = 2; n <= 4; n++) {
            String axis = "0 10 20 30".substring(0, 3 * n - 2);
            String values = "1 2 4 8".substring(0, 2 * n - 1);
            int last = 10 * (n - 1);
            int value = 1 << n - 1;
            CountedLibrary loads = library("0 / " + axis + " / " + values);
            due(loads, 0, last, value);
            due(loads, 0, last + 1, value);
            due(loads, 0, last - 5, value * 3 / 4);
            CountedLibrary slopes = library(axis + " / 0 / " + values);
            due(slopes, last, 0, value);
            due(slopes, last + 1, 0, value);
            due(slopes, last - 5, 0, value * 3 / 4);
        }
    }

    private static void oneNumber() {
        CHECKS.sentence("(on an axis of one number there is that one alone)");
        int[] asked = {0, 4, 5, 6, 7, MOST};
        CountedLibrary both = library("5 / 6 / 77");
        CountedLibrary oneSlope = library("5 / 0 10 / 10 30");
        CountedLibrary oneLoad = library("0 10 / 5 / 10 30");
        for (int n : asked) {
            due(both, n, n, 77);
            due(both, n, 6, 77);
            due(both, 5, n, 77);
            due(oneSlope, n, 0, 10);
            due(oneSlope, n, 5, 20);
            due(oneSlope, n, 10, 30);
            due(oneLoad, 0, n, 10);
            due(oneLoad, 5, n, 20);
            due(oneLoad, 10, n, 30);
        }
        CountedLibrary ends = library("0 / 999999 / 999999");
        due(ends, 0, 0, 999999);
        due(ends, MOST, MOST, 999999);
        // One number, though older tables on the same rows had more.
        CountedLibrary again = new CountedLibrary();
        String cell = "cell c{in a;out Y=a;arc a Y pos t u;}";
        for (int n = 0; n < 2; n++) {
            Checks.read(again, "table t:0 10 20 30/0 10 20 30/1 2 3 4 5 6 7 8 9 10 11 12 13 14 15 16;table u:7/3/42;" + cell);
        }
        for (int n = 0; n < 2; n++) {
            Checks.read(again, "table t:0/0/9;table u:7/3/42;" + cell);
            due(again, 15, 15, 9);
        }
    }

    private static void roundedDown() {
        CHECKS.sentence("v + ( ( w - v ) * ( x - a ) ) / ( b - a ), rounded down");
        CountedLibrary down = library("0 / 0 3 / 10 0");
        due(down, 0, 0, 10);
        due(down, 0, 1, 6);
        due(down, 0, 2, 3);
        due(down, 0, 3, 0);
        CountedLibrary up = library("0 / 0 3 / 0 10");
        due(up, 0, 1, 3);
        due(up, 0, 2, 6);
        CountedLibrary downBySlope = library("0 3 / 0 / 10 0");
        due(downBySlope, 1, 0, 6);
        due(downBySlope, 2, 0, 3);
        CountedLibrary one = library("0 / 0 999999 / 1 0");
        due(one, 0, 0, 1);
        due(one, 0, 1, 0);
        due(one, 0, 999998, 0);
        due(one, 0, 999999, 0);
        CountedLibrary rising = library("0 / 0 999999 / 0 1");
        due(rising, 0, 1, 0);
        due(rising, 0, 999998, 0);
        due(rising, 0, 999999, 1);
        // What divides without a rest is not rounded.
        CountedLibrary exact = library("0 / 0 4 / 8 4");
        due(exact, 0, 1, 7);
        due(exact, 0, 2, 6);
        due(exact, 0, 3, 5);
    }

    private static void loadsFirst() {
        CHECKS.sentence("First by loads, at both slopes of the span; then these by slopes.");
        // Each is rounded: 0 and 3 at the slopes, not 2/3 and 10/3.
        CountedLibrary twice = library("0 3 / 0 3 / 0 2 3 4");
        due(twice, 1, 1, 1);
        due(twice, 2, 1, 2);
        due(twice, 2, 2, 2);
        CountedLibrary down = library("0 2 / 0 2 / 1 0 0 0");
        due(down, 1, 1, 0);
        // By loads first 0 and 1, then 0; by slopes first 0 and 2, then 1.
        CountedLibrary less = library("0 4 / 0 2 / 0 1 0 3");
        due(less, 3, 1, 0);
        // By loads first 0 and 2, then 1; by slopes first 0 and 1, then 0.
        CountedLibrary more = library("0 2 / 0 3 / 0 0 0 3");
        due(more, 1, 2, 1);
    }

    private static void greatNumbers() {
        CHECKS.sentence("( w - v ) * ( x - a ), of the greatest numbers");
        CountedLibrary x = library("0 999999 / 0 999999 / 0 999999 999999 0");
        due(x, 999999, 0, 999999);
        due(x, 999998, 1, 999997);
        due(x, 500000, 0, 500000);
        due(x, MOST, 500000, 499999);
        due(x, 0, 999998, 999998);
        due(x, 0, MOST, 999999);
        due(x, MOST, MOST, 0);
        due(x, 999999, 999998, 1);
    }

    private static void riseAndFall() {
        CHECKS.sentence("The table of an arc (R, if it rises, else F)");
        CountedLibrary x = Checks.of("table t:1/1/5;table u:1/1/6;table v:1/1/7;cell c{in a;in b;out Y=a;arc a Y pos t v;arc b Y pos u u;}"
            + "cell d{in a;out Y=a;arc a Y pos v u;}");
        CHECKS.due("R", x.delay(0, 0, 0, 0, true), 5);
        CHECKS.due("F", x.delay(0, 0, 0, 0, false), 7);
        CHECKS.due("R of the second arc", x.delay(0, 1, 0, 0, true), 6);
        CHECKS.due("F of the second arc", x.delay(0, 1, 0, 0, false), 6);
        CHECKS.due("R of the second cell", x.delay(1, 0, 0, 0, true), 7);
        CHECKS.due("F of the second cell", x.delay(1, 0, 0, 0, false), 6);
    }

    private static void slopeBySlope() {
        CHECKS.sentence("VALUES: as many as slopes times loads, slope by slope");
        for (int slopes = 1; slopes <= 4; slopes++) {
            for (int loads = 1; loads <= 4; loads++) {
                StringBuilder values = new StringBuilder();
                for (int n = 1; n <= slopes * loads; n++) {
                    values.append(' ').append(10 * n);
                }
                CountedLibrary x = library("1 2 3 4".substring(0, 2 * slopes - 1) + " / " + "1 2 3 4".substring(0, 2 * loads - 1) + " /" + values);
                for (int s = 1; s <= slopes; s++) {
                    for (int l = 1; l <= loads; l++) {
                        due(x, s, l, 10 * ((s - 1) * loads + l));
                    }
                }
            }
        }
    }

    private static void rangeOfSlopeAndLoad() {
        CHECKS.sentence("IllegalArgumentException: slope or load is not 0 .. 1000000");
        CountedLibrary x = Checks.of(Checks.LIBRARY);
        CHECKS.answers("the least slope", 10, () -> x.delay(0, 0, 0, 5, true));
        CHECKS.answers("the greatest slope", 20, () -> x.delay(0, 0, MOST, 5, true));
        CHECKS.answers("the least load", 15, () -> x.delay(0, 0, 2, 0, true));
        CHECKS.answers("the greatest load", 15, () -> x.delay(0, 0, 2, MOST, true));
        CHECKS.answers("the least of both", 10, () -> x.delay(0, 0, 0, 0, true));
        CHECKS.answers("the greatest of both", 20, () -> x.delay(0, 0, MOST, MOST, true));
        int[] outside = {-1, MOST + 1, Integer.MIN_VALUE, Integer.MAX_VALUE};
        for (int n : outside) {
            CHECKS.refused("slope " + n, Checks.ARGUMENT, library -> library.delay(0, 0, n, 0, true));
            CHECKS.refused("slope " + n + ", falling", Checks.ARGUMENT, library -> library.delay(0, 0, n, MOST, false));
            CHECKS.refused("load " + n, Checks.ARGUMENT, library -> library.delay(0, 0, 0, n, true));
            CHECKS.refused("load " + n + ", falling", Checks.ARGUMENT, library -> library.delay(0, 1, MOST, n, false));
            CHECKS.refused("both " + n, Checks.ARGUMENT, library -> library.delay(0, 0, n, n, true));
        }
    }

    private static void namedFirst() {
        CHECKS.sentence("delay: the one named first when several would do");
        int[] numbers = {-1, MOST + 1, Integer.MIN_VALUE, Integer.MAX_VALUE};
        for (int n : numbers) {
            CHECKS.refused("no such arc, slope " + n, Checks.INDEX, library -> library.delay(0, 2, n, 0, true));
            CHECKS.refused("no such arc, load " + n, Checks.INDEX, library -> library.delay(0, -1, 0, n, true));
            CHECKS.refused("no such cell, slope " + n, Checks.INDEX, library -> library.delay(2, 0, n, 0, false));
            CHECKS.refused("no such cell, load " + n, Checks.INDEX, library -> library.delay(-1, 0, 0, n, false));
            CHECKS.refused("nothing of it, " + n, Checks.INDEX, library -> library.delay(n, n, n, n, true));
        }
    }

    private static void outside() {
        CHECKS.sentence("delay: IndexOutOfBoundsException: there is no such cell, arc");
        CountedLibrary x = Checks.of(Checks.LIBRARY);
        CHECKS.answers("the last arc", 7, () -> x.delay(0, 1, 0, 0, true));
        int[] outside = {-1, 2, 3, 10, 12, Integer.MIN_VALUE, Integer.MAX_VALUE};
        for (int n : outside) {
            CHECKS.refused("delay of cell " + n, Checks.INDEX, library -> library.delay(n, 0, 0, 0, true));
            CHECKS.refused("delay of arc " + n, Checks.INDEX, library -> library.delay(0, n, 0, 0, false));
        }
        CHECKS.refused("delay of a cell without arcs", Checks.INDEX, library -> library.delay(1, 0, 0, 0, true));
    }
}
