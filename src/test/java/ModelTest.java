import java.util.Arrays;
import java.util.List;

/** Holds the class against the plain model, over texts from a fixed row of numbers, sound and faulty ones. */
final class ModelTest {
    private static final Checks CHECKS = new Checks();
    private static final String[] PINS = {"a", "b", "c", "d", "e", "f", "in", "Y1", "longname", "_", "out"};
    private static final String[] ODD_WORDS = {";", "}", "{", "(", ")", "!", "&", "|", "^", "=", ":", "/", "0", "1", "2", "00",
        "1234567", "a", "b", "q", "in", "out", "arc", "power", "drive", "cell", "table", "t0", "Y", "ninechars", "~", "pos"};

    // An object is used for 512 calls at most; askBoth makes up to 135 of them, reading 2.
    private static final int CALLS_TO_WRITE = 370;

    private static long seed = 20261115;
    private static int sound;
    private static int faulty;
    private static int alikePairs;

    public static void main(String[] args) {
        for (int n = 0; n < 2500; n++) {
            CountedLibrary x = new CountedLibrary();
            PlainModel model = new PlainModel();
            int texts = 1 + below(2);
            for (int i = 0; i < texts; i++) {
                readBoth(x, model, n % 2 == 0, CALLS_TO_WRITE / texts * 4);
            }
            askBoth(x, model);
        }
        CHECKS.due("enough sound texts", sound > 1000, true);
        CHECKS.due("enough faulty texts", faulty > 1000, true);
        CHECKS.due("enough alike pairs", alikePairs > 1000, true);
        CHECKS.finish();
    }

    private static int below(int limit) {
        seed = seed * 6364136223846793005L + 1442695040888963407L;
        return (int) ((seed >>> 33) % limit);
    }

    private static void readBoth(CountedLibrary x, PlainModel model, boolean spoil, int room) {
        String text = text(room - 400);
        for (int times = spoil ? 1 + below(2) : 0; times > 0; times--) {
            text = spoiled(text);
        }
        text = text.substring(0, Math.min(text.length(), Math.min(room, 1400)));
        for (int i = 0; i < text.length(); i += 4) {
            int four = 0;
            for (int j = i; j < Math.min(i + 4, text.length()); j++) {
                four = four << 8 | text.charAt(j);
            }
            CHECKS.due("units of " + text, x.units(four), true);
        }
        int want = model.read(text);
        CHECKS.due("read of " + text, x.read(), want);
        sound += want >= 0 ? 1 : 0;
        faulty += want < 0 ? 1 : 0;
    }

    private static String spoiled(String text) {
        int place = below(text.length() + 1);
        int end = Math.min(text.length(), place + below(4));
        String fresh = ODD_WORDS[below(ODD_WORDS.length)];
        switch (below(5)) {
            case 0:
                return text.substring(0, place);
            case 1:
                return text.substring(0, place) + text.substring(end);
            case 2:
                return text.substring(0, place) + (char) (32 + below(95)) + text.substring(end);
            default:
                return text.substring(0, place) + " " + fresh + " " + text.substring(end);
        }
    }

    private static String text(int most) {
        StringBuilder text = new StringBuilder();
        int tables = below(4);
        for (int i = 0; i < tables; i++) {
            text.append("table t").append(i).append(" : ");
            int values = axis(text) * axis(text);
            for (int k = 0; k < values; k++) {
                text.append(below(3) == 0 ? below(1000000) : below(100)).append(' ');
            }
            text.append(";\n");
        }
        int cells = below(20) == 0 ? 14 : 1 + below(6);
        int inputs = 1 + below(6);
        long shared = seed;
        for (int i = 0; i < cells && text.length() < most; i++) {
            boolean own = below(3) == 0;
            cell(text, i, tables, own ? below(7) : inputs, own ? seed : shared);
        }
        return text.toString();
    }

    private static int axis(StringBuilder text) {
        int size = 1 + below(4);
        int number = below(20);
        for (int i = 0; i < size; i++) {
            text.append(number).append(' ');
            number += 1 + (below(6) == 0 ? below(100000) : below(20));
        }
        text.append("/ ");
        return size;
    }

    private static void cell(StringBuilder text, int number, int tables, int inputs, long function) {
        String name = below(2) == 0 ? "C" + below(1000) : "C" + number;
        text.append("cell ").append(name).append(" { ");
        String[] pins = mixedPins(inputs);
        for (String pin : pins) {
            text.append("in ").append(pin).append(" ; ");
        }
        String[] again = below(2) == 0 ? pins : mixed(pins.clone());
        String[] amounts = {"drive ", "load ", "area "};
        for (String amount : amounts) {
            if (below(3) > 0) {
                text.append(amount).append(below(4)).append(" ; ");
            }
        }
        int outputs = 1 + below(3);
        for (int o = 0; o < outputs; o++) {
            text.append("out Y").append(o == 0 ? "" : "_" + o).append(" = ");
            long next = seed;
            // Cells with the same first function, but for the order of its inputs, are alike.
            seed = o == 0 ? function : seed;
            exp(text, o == 0 ? again : pins, 1 + below(3));
            seed = next + 1;
            text.append(" ; ");
        }
        if (inputs > 0 && tables > 0) {
            arcs(text, pins, outputs, tables);
        }
        if (below(4) == 0 && inputs < 5) {
            text.append("power ");
            for (int s = 0; s < 1 << inputs; s++) {
                text.append(below(1000)).append(' ');
            }
            text.append("; ");
        }
        text.append("} ");
    }

    private static String[] mixedPins(int size) {
        return Arrays.copyOf(mixed(PINS.clone()), size);
    }

    private static String[] mixed(String[] row) {
        for (int i = row.length - 1; i > 0; i--) {
            int j = below(i + 1);
            String kept = row[i];
            row[i] = row[j];
            row[j] = kept;
        }
        return row;
    }

    private static void arcs(StringBuilder text, String[] pins, int outputs, int tables) {
        String[] senses = {" pos", " neg", " both"};
        int step = 1 + below(3);
        for (int n = below(2); n < pins.length * outputs; n += step) {
            int o = n / pins.length;
            text.append("arc ").append(pins[n % pins.length]).append(" Y").append(o == 0 ? "" : "_" + o)
                .append(senses[below(3)]).append(" t").append(below(tables)).append(" t").append(below(tables)).append(" ; ");
        }
    }

    private static void exp(StringBuilder text, String[] pins, int depth) {
        int parts = 1 + below(4);
        for (int n = 0; n < parts; n++) {
            text.append(n == 0 ? "" : " |^&".charAt(1 + below(3)) + (below(2) == 0 ? " " : ""));
            text.append(below(3) == 0 ? "!" : "");
            if (depth > 0 && below(3) == 0) {
                text.append('(');
                exp(text, pins, depth - 1);
                text.append(')');
            } else if (pins.length > 0 && below(12) > 0) {
                text.append(pins[below(pins.length)]);
            } else {
                text.append(below(2));
            }
        }
    }

    private static void askBoth(CountedLibrary x, PlainModel model) {
        CHECKS.due("cells", x.count(0), model.cells());
        CHECKS.due("tables", x.count(1), model.tables());
        CHECKS.due("tape", x.count(2), 0);
        for (int n = 0; n < 12 && model.cells() > 0; n++) {
            int c = below(model.cells());
            askCell(x, model, c);
            askArc(x, model, c);
            askFamily(x, model, c, below(model.cells()));
        }
    }

    private static void askCell(CountedLibrary x, PlainModel model, int c) {
        PlainModel.Cell cell = model.cell(c);
        int[] due = {cell.inputs.size(), cell.outputs.size(), cell.arcs.size(), cell.amount(cell.drive), cell.amount(cell.load),
            cell.amount(cell.area), model.disagreeing(c), cell.place};
        int what = below(10) - 1;
        CHECKS.answers("cell", what >= 0 && what < 8 ? due[what] : Checks.INDEX, () -> x.cell(c, what));
        int o = below(cell.outputs.size() + 2) - 1;
        int i = below(cell.inputs.size() + 2) - 1;
        boolean output = o >= 0 && o < cell.outputs.size();
        boolean input = i >= 0 && i < cell.inputs.size();
        CHECKS.answers("truth", output ? model.truth(c, o) : Checks.INDEX, () -> x.truth(c, o));
        CHECKS.answers("sense", output && input ? model.sense(c, i, o) : Checks.INDEX, () -> x.sense(c, i, o));
        int states = 1 << cell.inputs.size();
        int s = below(states + 2) - 1;
        long power = s < 0 || s >= states ? Checks.INDEX : cell.power == null ? 0 : cell.power.get(s);
        CHECKS.answers("power", power, () -> x.power(c, s));
        int pin = below(cell.inputs.size() + cell.outputs.size() + 3) - 2;
        boolean named = pin >= -1 && pin < cell.inputs.size() + cell.outputs.size();
        String name = !named ? "" : pin < 0 ? cell.name
            : pin < cell.inputs.size() ? cell.inputs.get(pin) : cell.outputs.get(pin - cell.inputs.size());
        int at = below(11) - 1;
        long letter = !named || at < 0 ? Checks.INDEX : at < name.length() ? name.charAt(at) : -1;
        CHECKS.answers("letter", letter, () -> x.letter(c, pin, at));
    }

    private static void askArc(CountedLibrary x, PlainModel model, int c) {
        PlainModel.Cell cell = model.cell(c);
        int k = below(cell.arcs.size() + 2) - 1;
        int what = below(8) - 1;
        boolean there = k >= 0 && k < cell.arcs.size();
        long want = Checks.INDEX;
        if (there && what >= 0 && what < 6) {
            PlainModel.Arc arc = cell.arcs.get(k);
            int[] due = {arc.input, arc.output, arc.told, arc.rise, arc.fall, model.agrees(c, k) ? 1 : 0};
            want = due[what];
        }
        CHECKS.answers("arc", want, () -> x.arc(c, k, what));
        int slope = number();
        int load = number();
        boolean rises = below(2) == 0;
        boolean fine = slope >= 0 && slope <= 1000000 && load >= 0 && load <= 1000000;
        long delay = !there ? Checks.INDEX : fine ? model.delay(c, k, slope, load, rises) : Checks.ARGUMENT;
        CHECKS.answers("delay", delay, () -> x.delay(c, k, slope, load, rises));
    }

    private static int number() {
        return below(20) == 0 ? -1 - below(5) : below(20) == 0 ? 999990 + below(20) : below(4) == 0 ? below(400000) : below(80);
    }

    private static void askFamily(CountedLibrary x, PlainModel model, int a, int b) {
        List<Integer> order = model.order(a, b);
        alikePairs += order != null && a != b ? 1 : 0;
        CHECKS.due("alike", x.alike(a, b), order != null);
        int inputs = model.cell(a).inputs.size();
        int k = below(inputs + 2) - 1;
        long stands = k < 0 || k >= inputs ? Checks.INDEX : order == null ? -1 : order.get(k);
        CHECKS.answers("order", stands, () -> x.order(a, b, k));
        List<Integer> family = model.family(a);
        int i = below(family.size() + 2) - 1;
        CHECKS.answers("family", i < 0 ? Checks.INDEX : i < family.size() ? family.get(i) : -1, () -> x.family(a, i));
        int load = below(7) - 1;
        CHECKS.answers("best", load < 0 ? Checks.ARGUMENT : model.best(a, load), () -> x.best(a, load));
    }
}
