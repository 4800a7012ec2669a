/** A CellLibrary that counts its calls: what it answers behind the 512th is free, so no test goes so far. */
final class CountedLibrary {
    private static final int CALLS = 512;

    private final CellLibrary inside = new CellLibrary();
    private int calls;

    private CellLibrary called() {
        calls++;
        if (calls > CALLS) {
            throw new AssertionError("a test makes more than " + CALLS + " calls of one object");
        }
        return inside;
    }

    boolean unit(int u) {
        return called().unit(u);
    }

    boolean units(int four) {
        return called().units(four);
    }

    int read() {
        return called().read();
    }

    int cell(int k, int what) {
        return called().cell(k, what);
    }

    long truth(int cell, int output) {
        return called().truth(cell, output);
    }

    int sense(int cell, int input, int output) {
        return called().sense(cell, input, output);
    }

    int arc(int cell, int k, int what) {
        return called().arc(cell, k, what);
    }

    int delay(int cell, int arc, int slope, int load, boolean rises) {
        return called().delay(cell, arc, slope, load, rises);
    }

    int power(int cell, int state) {
        return called().power(cell, state);
    }

    boolean alike(int a, int b) {
        return called().alike(a, b);
    }

    int order(int a, int b, int k) {
        return called().order(a, b, k);
    }

    int family(int cell, int i) {
        return called().family(cell, i);
    }

    int best(int cell, int load) {
        return called().best(cell, load);
    }

    int letter(int cell, int pin, int i) {
        return called().letter(cell, pin, i);
    }

    int count(int what) {
        return called().count(what);
    }
}
