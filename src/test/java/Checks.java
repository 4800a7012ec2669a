import java.util.List;
import java.util.function.LongSupplier;
import java.util.function.ToLongFunction;

/** What the tests share: a tape that is written whole, and answers that are held against what is due. */
final class Checks {
    /** Stands for an answer that was an exception; no call of the tests answers these numbers. */
    static final long INDEX = Long.MIN_VALUE + 101;
    static final long ARGUMENT = Long.MIN_VALUE + 102;
    static final long OTHER = Long.MIN_VALUE + 103;

    /** Two alike cells, one of them with all that a cell may have; cell 1 stands first in the family. */
    static final String LIBRARY = "table t:1 3/2/10 20;table u:5/6/7;"
        + "cell AA{in a;in b;out Y=a&!b;out Z=b;drive 2;load 3;area 4;arc a Y pos t u;arc b Y pos u t;power 5 6 7 8;}"
        + "cell B{in c;in d;out Q=!c&d;drive 1;load 9;area 6;}";

    private static final String OLD = "table T:1 9/1/1 5;cell OLD{in a;out Z=!a;drive 3;load 4;area 7;arc a Z neg T T;power 8 9;}";
    private static final String NEW = "cell N{in z;out W=z;}";

    private String sentence = "";
    private int wrong;
    private int made;

    /** Names the sentence of the document that the checks behind it hold the class to. */
    void sentence(String words) {
        sentence = words;
    }

    void due(String call, long got, long want) {
        made++;
        if (got != want) {
            wrong++;
            String label = sentence.isEmpty() ? "" : "\"" + sentence + "\": ";
            System.out.println(label + call + " answered " + told(got) + ", due is " + told(want));
        }
    }

    void due(String call, boolean got, boolean want) {
        due(call, got ? 1 : 0, want ? 1 : 0);
    }

    void answers(String call, long want, LongSupplier made) {
        due(call, answerOf(made), want);
    }

    void index(String call, LongSupplier made) {
        due(call, answerOf(made), INDEX);
    }

    void argument(String call, LongSupplier made) {
        due(call, answerOf(made), ARGUMENT);
    }

    static long answerOf(LongSupplier call) {
        try {
            return call.getAsLong();
        } catch (IndexOutOfBoundsException e) {
            return e.getClass() == IndexOutOfBoundsException.class ? INDEX : OTHER;
        } catch (IllegalArgumentException e) {
            return e.getClass() == IllegalArgumentException.class ? ARGUMENT : OTHER;
        } catch (RuntimeException e) {
            return OTHER;
        }
    }

    static String told(long answer) {
        return answer == INDEX ? "throws.IndexOutOfBoundsException"
            : answer == ARGUMENT ? "throws.IllegalArgumentException"
            : answer == OTHER ? "another exception" : Long.toString(answer);
    }

    static int four(int a, int b, int c, int d) {
        return a << 24 | b << 16 | c << 8 | d;
    }

    static void write(CountedLibrary library, String text) {
        for (int i = 0; i < text.length(); i += 4) {
            int four = 0;
            for (int j = i; j < Math.min(i + 4, text.length()); j++) {
                four = four << 8 | text.charAt(j);
            }
            if (!library.units(four)) {
                throw new IllegalStateException("the tape refused character " + i + " of " + text);
            }
        }
    }

    static int read(CountedLibrary library, String text) {
        write(library, text);
        return library.read();
    }

    /** A new library that has read a text without a fault. */
    static CountedLibrary of(String text) {
        CountedLibrary library = new CountedLibrary();
        int answer = read(library, text);
        if (answer < 0) {
            throw new IllegalStateException("fault at " + (-1 - answer) + " of " + text);
        }
        return library;
    }

    /**
     * The place of the fault is where the mark stands; the mark itself is not read. What was there
     * stays, and nothing of the faulty text comes to light with the next one.
     */
    void fault(String marked) {
        int place = marked.indexOf('@');
        String text = marked.substring(0, place) + marked.substring(place + 1);
        CountedLibrary library = used();
        List<Long> before = Picture.of(library);
        due("read of " + marked, read(library, text), -1 - place);
        due("what was there stays behind " + marked, Picture.of(library).equals(before), true);
        due("a text behind " + marked, read(library, NEW), 1);
        due("what is there behind it", Picture.of(library).equals(Picture.of(of(NEW))), true);
    }

    void sound(String text, int cells) {
        due("read of " + text, read(new CountedLibrary(), text), cells);
        due("read, behind other texts, of " + text, read(used(), text), cells);
    }

    /** A library that has read the same text twice, so that all it may keep rows in has been used. */
    private static CountedLibrary used() {
        CountedLibrary library = of(OLD);
        read(library, OLD);
        return library;
    }

    /** A call that is refused or throws: all answers behind it are those before it, and so is the tape. */
    void refused(String call, long want, ToLongFunction<CountedLibrary> made) {
        CountedLibrary library = of(LIBRARY);
        write(library, "cell NEW{out ");
        List<Long> before = Picture.of(library);
        due(call, answerOf(() -> made.applyAsLong(library)), want);
        due("nothing has changed by " + call, Picture.of(library).equals(before), true);
        due("the tape goes on behind " + call, read(library, "P=1;}"), 1);
        spelled(library, 0, CellLibrary.NONE, "NEW");
        spelled(library, 0, 0, "P");
    }

    void spelled(CountedLibrary library, int cell, int pin, String name) {
        for (int i = 0; i < name.length(); i++) {
            due("letter " + i + " of " + name, library.letter(cell, pin, i), name.charAt(i));
        }
        due("behind " + name, library.letter(cell, pin, name.length()), CellLibrary.NONE);
    }

    void finish() {
        if (wrong > 0 || made == 0) {
            System.out.println(wrong + " of " + made + " answers are wrong");
            System.exit(1);
        }
    }
}
