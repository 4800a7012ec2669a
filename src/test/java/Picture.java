import java.util.ArrayList;
import java.util.List;

/** What a library answers to all that can be asked, as one row: two of them tell whether a call changed anything. */
final class Picture {
    private final CountedLibrary library;
    private final List<Long> answers = new ArrayList<>();

    private Picture(CountedLibrary library) {
        this.library = library;
    }

    static List<Long> of(CountedLibrary library) {
        Picture picture = new Picture(library);
        picture.takeAll();
        return picture.answers;
    }

    private int take(long answer) {
        answers.add(answer);
        return (int) answer;
    }

    private void takeAll() {
        int cells = take(library.count(0));
        take(library.count(1));
        take(library.count(2));
        for (int c = 0; c < cells; c++) {
            takeCell(c);
            takeNames(c);
            takeFamily(c, cells);
        }
    }

    private void takeCell(int c) {
        int inputs = take(library.cell(c, 0));
        int outputs = take(library.cell(c, 1));
        int arcs = take(library.cell(c, 2));
        for (int what = 3; what < 8; what++) {
            take(library.cell(c, what));
        }
        for (int output = 0; output < outputs; output++) {
            take(library.truth(c, output));
            for (int input = 0; input < inputs; input++) {
                take(library.sense(c, input, output));
            }
        }
        for (int k = 0; k < arcs; k++) {
            for (int what = 0; what < 6; what++) {
                take(library.arc(c, k, what));
            }
            take(library.delay(c, k, 2, 2, true));
            take(library.delay(c, k, 1000000, 0, false));
        }
        for (int state = 0; state < 1 << inputs; state++) {
            take(library.power(c, state));
        }
    }

    private void takeNames(int c) {
        int pins = library.cell(c, 0) + library.cell(c, 1);
        for (int pin = CellLibrary.NONE; pin < pins; pin++) {
            take(library.letter(c, pin, 0));
            take(library.letter(c, pin, 1));
        }
    }

    private void takeFamily(int c, int cells) {
        int inputs = library.cell(c, 0);
        for (int other = 0; other < cells; other++) {
            take(library.alike(c, other) ? 1 : 0);
            for (int k = 0; k < inputs; k++) {
                take(library.order(c, other, k));
            }
        }
        for (int i = 0; i <= cells; i++) {
            take(library.family(c, i));
        }
        take(library.best(c, 0));
        take(library.best(c, 5));
    }
}
