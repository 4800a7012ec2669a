/** Promise 9: delay. */
final class DelayTest {
    private static final Checks CHECKS = new Checks();

    public static void main(String[] args) {
        joined();
        roundedDown();
        oneNumber();
        wide();
        wrong();
        CHECKS.finish();
    }

    private static CellLibrary library(String table) {
        return Checks.of("table t : " + table + " ; table u : 7 / 3 / 42 ; cell c { in a ; out Y = a ; arc a Y pos t u ; }");
    }

    private static void due(CellLibrary x, int slope, int load, int want) {
        CHECKS.due("delay at " + slope + ", " + load, x.delay(0, 0, slope, load, true), want);
        CHECKS.due("delay of what falls at " + slope + ", " + load, x.delay(0, 0, slope, load, false), 42);
    }

    private static void joined() {
        CellLibrary x = library("10 20 40 / 1 5 9 / 100 200 400  300 500 900  0 8 80");
        due(x, 10, 1, 100);
        due(x, 10, 5, 200);
        due(x, 10, 9, 400);
        due(x, 20, 1, 300);
        due(x, 20, 5, 500);
        due(x, 40, 1, 0);
        due(x, 40, 9, 80);
        due(x, 10, 3, 150);
        due(x, 10, 8, 350);
        due(x, 15, 1, 200);
        due(x, 15, 3, 275);
        due(x, 30, 5, 254);
        due(x, 30, 7, 372);
        due(x, 0, 0, 100);
        due(x, 9, 0, 100);
        due(x, 41, 10, 80);
        due(x, 1000000, 1000000, 80);
        due(x, 0, 1000000, 400);
        due(x, 1000000, 0, 0);
    }

    private static void roundedDown() {
        CellLibrary down = library("0 / 0 3 / 10 0");
        due(down, 0, 1, 6);
        due(down, 0, 2, 3);
        CellLibrary up = library("0 / 0 3 / 0 10");
        due(up, 0, 1, 3);
        due(up, 0, 2, 6);
        // First by loads, each rounded: 0 and 3 at the slopes, not 1/3 and 10/3.
        CellLibrary twice = library("0 3 / 0 3 / 0 2 3 4");
        due(twice, 1, 1, 1);
        due(twice, 2, 1, 2);
        due(twice, 2, 2, 2);
        CellLibrary order = library("0 2 / 0 2 / 1 0 0 0");
        due(order, 1, 1, 0);
        CellLibrary loadsFirst = library("0 10 / 0 2 / 0 1 9 9");
        due(loadsFirst, 9, 1, 8);
    }

    private static void oneNumber() {
        CellLibrary both = library("5 / 6 / 77");
        due(both, 0, 0, 77);
        due(both, 5, 6, 77);
        due(both, 1000000, 1000000, 77);
        CellLibrary oneSlope = library("5 / 0 10 / 10 30");
        due(oneSlope, 0, 5, 20);
        due(oneSlope, 9, 5, 20);
        CellLibrary oneLoad = library("0 10 / 5 / 10 30");
        due(oneLoad, 5, 0, 20);
        due(oneLoad, 5, 9, 20);
    }

    private static void wide() {
        CellLibrary x = library("0 999999 / 0 999999 / 0 999999 999999 0");
        due(x, 999999, 0, 999999);
        due(x, 999998, 1, 999997);
        due(x, 500000, 0, 500000);
        due(x, 1000000, 500000, 499999);
        CellLibrary four = library("1 2 3 4 / 1 2 3 4 / 1 2 3 4 5 6 7 8 9 10 11 12 13 14 15 16");
        for (int slope = 0; slope < 6; slope++) {
            for (int load = 0; load < 6; load++) {
                int row = Math.max(1, Math.min(4, slope));
                due(four, slope, load, 4 * row - 4 + Math.max(1, Math.min(4, load)));
            }
        }
    }

    private static void wrong() {
        CellLibrary x = Checks.of("table t : 1 / 1 / 5 ; cell c { in a ; out Y = a ; arc a Y pos t t ; } cell d { out Y = 1 ; }");
        int[] outside = {-1, 1000001, Integer.MIN_VALUE, Integer.MAX_VALUE};
        for (int n : outside) {
            CHECKS.argument("slope " + n, () -> x.delay(0, 0, n, 0, true));
            CHECKS.argument("load " + n, () -> x.delay(0, 0, 0, n, false));
            CHECKS.index("cell " + n, () -> x.delay(n, 0, 0, 0, true));
            CHECKS.index("arc " + n, () -> x.delay(0, n, 0, 0, true));
            CHECKS.index("arc first, then slope " + n, () -> x.delay(0, 1, n, n, true));
            CHECKS.index("cell first, then slope " + n, () -> x.delay(2, 0, n, n, true));
        }
        CHECKS.index("a cell without arcs", () -> x.delay(1, 0, 0, 0, true));
        CHECKS.answers("the greatest numbers", 5, () -> x.delay(0, 0, 1000000, 1000000, true));
    }
}
