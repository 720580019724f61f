import java.util.ArrayList;
import java.util.List;

/** All that an object answers, to compare two objects, or one with itself of before. */
final class Told {
    private Told() {
    }

    /** What is told by looking alone; nothing changes. */
    static int[] by(TitleCaller x) {
        Row row = new Row();
        for (int what = 0; what <= 14; what++) {
            row.add(x.count(what));
        }
        row.add(x.fault());
        for (int what = 0; what <= 7; what++) {
            for (int number = 0; number <= 120; number++) {
                row.add(x.ofBar(number, what));
                row.add(x.sung(number, what));
                row.add(x.ofTitle(number, what));
                row.add(x.showing(number, what));
            }
        }
        for (int time = 0; time <= x.count(7); time += 7) {
            row.add(x.at(time));
        }
        return row.numbers();
    }

    /** Also what only changes bring to light: the pad, the history, and the slots. Uses the object up. */
    static int[] byAllOf(TitleCaller x) {
        Row row = new Row();
        row.add(by(x));
        for (int call = 0; call < 8; call++) {
            row.add(x.undo());
            row.add(by(x));
        }
        row.add(x.carryOut());
        row.add(by(x));
        for (int slot = 0; slot < 2; slot++) {
            row.add(x.restore(slot));
            row.add(by(x));
        }
        return row.numbers();
    }

    private static final class Row {
        private final List<Integer> numbers = new ArrayList<>();

        void add(int number) {
            numbers.add(number);
        }

        void add(int[] more) {
            for (int number : more) {
                numbers.add(number);
            }
        }

        int[] numbers() {
            return numbers.stream().mapToInt(number -> number).toArray();
        }
    }
}
