import java.util.ArrayList;
import java.util.Comparator;
import java.util.List;
import java.util.regex.Matcher;
import java.util.regex.Pattern;

/** The document once more, in the plainest way and with the whole Java library; ModelTest holds the class against it. */
final class PlainModel {
    private static final Pattern WORD = Pattern.compile("[A-Za-z_][A-Za-z_0-9]*|[0-9]+|[^ \n]");

    private static final class Fault extends RuntimeException {
        private static final long serialVersionUID = 1;
        final int place;

        Fault(int place) {
            this.place = place;
        }
    }

    static final class Table {
        String name;
        List<Integer> slopes = new ArrayList<>();
        List<Integer> loads = new ArrayList<>();
        List<Integer> values = new ArrayList<>();
    }

    static final class Arc {
        int input;
        int output;
        int told;
        int rise;
        int fall;
    }

    static final class Cell {
        String name;
        int place;
        List<String> inputs = new ArrayList<>();
        List<String> outputs = new ArrayList<>();
        List<boolean[]> values = new ArrayList<>();
        List<Arc> arcs = new ArrayList<>();
        Integer drive;
        Integer load;
        Integer area;
        List<Integer> power;

        int amount(Integer told) {
            return told == null ? 0 : told;
        }
    }

    private List<Table> tables = new ArrayList<>();
    private List<Cell> cells = new ArrayList<>();

    // What is being read.
    private List<String> words;
    private List<Integer> places;
    private int at;
    private List<Table> newTables;
    private List<Cell> newCells;

    int read(String text) {
        words = new ArrayList<>();
        places = new ArrayList<>();
        Matcher found = WORD.matcher(text);
        while (found.find()) {
            words.add(found.group());
            places.add(found.start());
        }
        words.add("");
        places.add(text.length());
        at = 0;
        newTables = new ArrayList<>();
        newCells = new ArrayList<>();
        try {
            while (!word().isEmpty()) {
                if (word().equals("table")) {
                    table();
                } else if (word().equals("cell")) {
                    cell();
                } else {
                    throw fault();
                }
            }
        } catch (Fault fault) {
            return -1 - fault.place;
        }
        tables = newTables;
        cells = newCells;
        return cells.size();
    }

    private String word() {
        return words.get(at);
    }

    private Fault fault() {
        return new Fault(places.get(at));
    }

    private void need(boolean stands) {
        if (!stands) {
            throw fault();
        }
    }

    private void sign(String sign) {
        need(word().equals(sign));
        at++;
    }

    private String name() {
        need(word().matches("[A-Za-z_][A-Za-z_0-9]{0,7}"));
        return word();
    }

    private boolean isNumber() {
        return word().matches("[0-9]{1,6}");
    }

    private int number() {
        need(isNumber());
        return Integer.parseInt(words.get(at++));
    }

    private int tableNamed(String name) {
        for (int i = 0; i < newTables.size(); i++) {
            if (newTables.get(i).name.equals(name)) {
                return i;
            }
        }
        return -1;
    }

    private void table() {
        at++;
        Table table = new Table();
        table.name = name();
        need(tableNamed(table.name) < 0 && newTables.size() < 12);
        at++;
        sign(":");
        axis(table.slopes);
        axis(table.loads);
        for (int i = 0; i < table.slopes.size() * table.loads.size(); i++) {
            table.values.add(number());
        }
        sign(";");
        newTables.add(table);
    }

    private void axis(List<Integer> axis) {
        do {
            need(isNumber());
            need(axis.size() < 4);
            need(axis.isEmpty() || Integer.parseInt(word()) > axis.get(axis.size() - 1));
            axis.add(number());
        } while (!word().equals("/"));
        at++;
    }

    private void cell() {
        at++;
        Cell cell = new Cell();
        cell.name = name();
        cell.place = places.get(at);
        for (Cell other : newCells) {
            need(!other.name.equals(cell.name));
        }
        need(newCells.size() < 12);
        at++;
        sign("{");
        while (!word().equals("}")) {
            item(cell);
            sign(";");
        }
        need(!cell.outputs.isEmpty());
        at++;
        newCells.add(cell);
    }

    private void item(Cell cell) {
        String item = word();
        switch (item) {
            case "in":
                need(cell.outputs.isEmpty() && cell.power == null);
                at++;
                need(!cell.inputs.contains(name()) && cell.inputs.size() < 6);
                cell.inputs.add(words.get(at++));
                break;
            case "out":
                at++;
                need(!cell.inputs.contains(name()) && !cell.outputs.contains(word()) && cell.outputs.size() < 3);
                String output = words.get(at++);
                sign("=");
                cell.values.add(either(cell, 0));
                cell.outputs.add(output);
                break;
            case "drive":
                need(cell.drive == null);
                at++;
                cell.drive = number();
                break;
            case "load":
                need(cell.load == null);
                at++;
                cell.load = number();
                break;
            case "area":
                need(cell.area == null);
                at++;
                cell.area = number();
                break;
            case "power":
                need(cell.power == null);
                at++;
                List<Integer> power = new ArrayList<>();
                while (power.size() < 1 << cell.inputs.size()) {
                    power.add(number());
                }
                cell.power = power;
                break;
            case "arc":
                arc(cell);
                break;
            default:
                throw fault();
        }
    }

    private void arc(Cell cell) {
        need(cell.arcs.size() < 10);
        at++;
        Arc arc = new Arc();
        arc.input = cell.inputs.indexOf(word());
        need(arc.input >= 0);
        at++;
        arc.output = cell.outputs.indexOf(word());
        need(arc.output >= 0);
        for (Arc other : cell.arcs) {
            need(other.input != arc.input || other.output != arc.output);
        }
        at++;
        need(List.of("neg", "both", "pos").contains(word()));
        arc.told = List.of("neg", "both", "pos").indexOf(words.get(at++)) - 1;
        arc.rise = tableNamed(word());
        need(arc.rise >= 0);
        at++;
        arc.fall = tableNamed(word());
        need(arc.fall >= 0);
        at++;
        cell.arcs.add(arc);
    }

    private boolean[] either(Cell cell, int open) {
        boolean[] v = odd(cell, open);
        while (word().equals("|")) {
            at++;
            boolean[] w = odd(cell, open);
            for (int s = 0; s < v.length; s++) {
                v[s] = v[s] || w[s];
            }
        }
        return v;
    }

    private boolean[] odd(Cell cell, int open) {
        boolean[] v = both(cell, open);
        while (word().equals("^")) {
            at++;
            boolean[] w = both(cell, open);
            for (int s = 0; s < v.length; s++) {
                v[s] = v[s] != w[s];
            }
        }
        return v;
    }

    private boolean[] both(Cell cell, int open) {
        boolean[] v = not(cell, open);
        while (word().equals("&")) {
            at++;
            boolean[] w = not(cell, open);
            for (int s = 0; s < v.length; s++) {
                v[s] = v[s] && w[s];
            }
        }
        return v;
    }

    private boolean[] not(Cell cell, int open) {
        boolean[] v = new boolean[1 << cell.inputs.size()];
        if (word().equals("!")) {
            at++;
            boolean[] w = not(cell, open);
            for (int s = 0; s < v.length; s++) {
                v[s] = !w[s];
            }
            return v;
        }
        if (word().equals("(")) {
            need(open < 16);
            at++;
            v = either(cell, open + 1);
            sign(")");
            return v;
        }
        int input = cell.inputs.indexOf(word());
        need(input >= 0 || word().equals("0") || word().equals("1"));
        for (int s = 0; s < v.length; s++) {
            v[s] = input >= 0 ? (s >> input & 1) == 1 : word().equals("1");
        }
        at++;
        return v;
    }

    // What can be asked; a number of something that there is not is for the caller to keep away.

    int cells() {
        return cells.size();
    }

    int tables() {
        return tables.size();
    }

    Cell cell(int k) {
        return cells.get(k);
    }

    long truth(int cell, int output) {
        boolean[] v = cells.get(cell).values.get(output);
        long truth = 0;
        for (int s = 0; s < v.length; s++) {
            truth |= v[s] ? 1L << s : 0;
        }
        return truth;
    }

    int sense(int cell, int input, int output) {
        boolean[] v = cells.get(cell).values.get(output);
        boolean rises = false;
        boolean falls = false;
        for (int s = 0; s < v.length; s++) {
            if ((s >> input & 1) == 0) {
                boolean high = v[s | 1 << input];
                rises |= high && !v[s];
                falls |= v[s] && !high;
            }
        }
        return rises && falls ? 0 : rises ? 1 : falls ? -1 : 2;
    }

    boolean agrees(int cell, int k) {
        Arc arc = cells.get(cell).arcs.get(k);
        int sense = sense(cell, arc.input, arc.output);
        return arc.told == 0 || arc.told == 1 && (sense == 1 || sense == 2) || arc.told == -1 && (sense == -1 || sense == 2);
    }

    int disagreeing(int cell) {
        int many = 0;
        for (int k = 0; k < cells.get(cell).arcs.size(); k++) {
            many += agrees(cell, k) ? 0 : 1;
        }
        return many;
    }

    int delay(int cell, int k, int slope, int load, boolean rises) {
        Arc arc = cells.get(cell).arcs.get(k);
        Table table = tables.get(rises ? arc.rise : arc.fall);
        int s = span(table.slopes, slope);
        int first = byLoad(table, s, load);
        int second = byLoad(table, Math.min(s + 1, table.slopes.size() - 1), load);
        return mixed(table.slopes, s, first, second, slope);
    }

    private int byLoad(Table table, int s, int load) {
        int l = span(table.loads, load);
        int row = s * table.loads.size();
        return mixed(table.loads, l, table.values.get(row + l),
            table.values.get(row + Math.min(l + 1, table.loads.size() - 1)), load);
    }

    private static int span(List<Integer> axis, int x) {
        int start = axis.size() - 1;
        while (start > 0 && axis.get(start) > x) {
            start--;
        }
        return Math.max(0, Math.min(start, axis.size() - 2));
    }

    private static int mixed(List<Integer> axis, int start, int v, int w, int asked) {
        if (axis.size() == 1) {
            return v;
        }
        long x = Math.max(axis.get(0), Math.min(axis.get(axis.size() - 1), asked));
        long a = axis.get(start);
        long b = axis.get(start + 1);
        return Math.toIntExact(v + Math.floorDiv((w - v) * (x - a), b - a));
    }

    /** The order, null if the cells are not alike. */
    List<Integer> order(int a, int b) {
        return cells.get(a).inputs.size() != cells.get(b).inputs.size() ? null : order(a, b, new ArrayList<>());
    }

    private List<Integer> order(int a, int b, List<Integer> begun) {
        int n = cells.get(a).inputs.size();
        if (begun.size() == n) {
            return sameUnder(begun, cells.get(a).values.get(0), cells.get(b).values.get(0)) ? begun : null;
        }
        for (int p = 0; p < n; p++) {
            if (!begun.contains(p)) {
                List<Integer> longer = new ArrayList<>(begun);
                longer.add(p);
                List<Integer> found = order(a, b, longer);
                if (found != null) {
                    return found;
                }
            }
        }
        return null;
    }

    private static boolean sameUnder(List<Integer> order, boolean[] own, boolean[] other) {
        for (int s = 0; s < own.length; s++) {
            int t = 0;
            for (int k = 0; k < order.size(); k++) {
                t |= (s >> k & 1) << order.get(k);
            }
            if (own[s] != other[t]) {
                return false;
            }
        }
        return true;
    }

    List<Integer> family(int cell) {
        List<Integer> family = new ArrayList<>();
        for (int c = 0; c < cells.size(); c++) {
            if (order(cell, c) != null) {
                family.add(c);
            }
        }
        family.sort(Comparator.comparing((Integer c) -> cells.get(c).amount(cells.get(c).drive))
            .thenComparing(c -> cells.get(c).name));
        return family;
    }

    int best(int cell, int load) {
        int best = -1;
        for (int c : family(cell)) {
            Cell next = cells.get(c);
            boolean smaller = best < 0 || next.amount(next.area) < cells.get(best).amount(cells.get(best).area);
            if (next.amount(next.load) >= load && smaller) {
                best = c;
            }
        }
        return best;
    }
}
