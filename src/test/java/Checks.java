import java.util.function.LongSupplier;

/** What the tests share: a tape that is written whole, and answers that are held against what is due. */
final class Checks {
    /** Stands for an answer that was an exception; no call of the tests answers these numbers. */
    static final long INDEX = Long.MIN_VALUE + 101;
    static final long ARGUMENT = Long.MIN_VALUE + 102;
    static final long OTHER = Long.MIN_VALUE + 103;

    private int wrong;
    private int made;

    void due(String call, long got, long want) {
        made++;
        if (got != want) {
            wrong++;
            System.out.println(call + " answered " + told(got) + ", due is " + told(want));
        }
    }

    void due(String call, boolean got, boolean want) {
        due(call, got ? 1 : 0, want ? 1 : 0);
    }

    void answers(String call, long want, LongSupplier made) {
        due(call, answerOf(made), want);
    }

    void index(String call, LongSupplier made) {
        due(call, answerOf(made), INDEX);
    }

    void argument(String call, LongSupplier made) {
        due(call, answerOf(made), ARGUMENT);
    }

    static long answerOf(LongSupplier call) {
        try {
            return call.getAsLong();
        } catch (IndexOutOfBoundsException e) {
            return e.getClass() == IndexOutOfBoundsException.class ? INDEX : OTHER;
        } catch (IllegalArgumentException e) {
            return e.getClass() == IllegalArgumentException.class ? ARGUMENT : OTHER;
        } catch (RuntimeException e) {
            return OTHER;
        }
    }

    static String told(long answer) {
        return answer == INDEX ? "throws.IndexOutOfBoundsException"
            : answer == ARGUMENT ? "throws.IllegalArgumentException"
            : answer == OTHER ? "another exception" : Long.toString(answer);
    }

    static void write(CellLibrary library, String text) {
        for (int i = 0; i < text.length(); i++) {
            if (!library.unit(text.charAt(i))) {
                throw new IllegalStateException("the tape refused character " + i + " of " + text);
            }
        }
    }

    static int read(CellLibrary library, String text) {
        write(library, text);
        return library.read();
    }

    /** A new library that has read a text without a fault. */
    static CellLibrary of(String text) {
        CellLibrary library = new CellLibrary();
        int answer = read(library, text);
        if (answer < 0) {
            throw new IllegalStateException("fault at " + (-1 - answer) + " of " + text);
        }
        return library;
    }

    /** The place of the fault is where the mark stands; the mark itself is not read. */
    void fault(String marked) {
        int place = marked.indexOf('@');
        String text = marked.substring(0, place) + marked.substring(place + 1);
        CellLibrary library = of("cell OLD { out Z = 1 ; area 77 ; } table T : 1 / 1 / 1 ;");
        due("read of " + marked, read(library, text), -1 - place);
        due("tape behind " + marked, library.count(2), 0);
        due("cells behind " + marked, library.count(0), 1);
        due("tables behind " + marked, library.count(1), 1);
        due("area behind " + marked, library.cell(0, 5), 77);
    }

    void sound(String text, int cells) {
        due("read of " + text, read(new CellLibrary(), text), cells);
    }

    void finish() {
        if (wrong > 0 || made == 0) {
            System.out.println(wrong + " of " + made + " answers are wrong");
            System.exit(1);
        }
    }
}
