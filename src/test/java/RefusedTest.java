import java.util.function.Supplier;
import java.util.function.ToIntFunction;

/**
 * The conventions: which error is answered when several apply, that a refused call changes nothing, that NONE is
 * answered only if no error applies, and that what only looks changes nothing.
 */
public final class RefusedTest {
    private static final int NO_SUCH = TitleCaller.NO_SUCH, BAD_VALUE = TitleCaller.BAD_VALUE, BAD_TEXT = TitleCaller.BAD_TEXT,
            TOO_MANY = TitleCaller.TOO_MANY, NOT_POSSIBLE = TitleCaller.NOT_POSSIBLE, NONE = TitleCaller.NONE;
    private static final int LOWEST = Integer.MIN_VALUE, HIGHEST = Integer.MAX_VALUE;

    public static void main(String[] args) {
        changesThatAreRefused();
        changesThatAreRefusedWhenAllIsFull();
        refusedBecauseOthersStandInTheWay();
        looksThatAreRefused();
        textsThatAreRefused();
        historyThatIsRefused();
        ordersThatAreRefused();
        noneOnlyIfNoErrorApplies();
        looksChangeNothing();
        noneChangesNothing();
        Check.finish("RefusedTest");
    }

    /** A score with some of all, more changes behind it than can be undone, a text on the pad, and slot 0 empty. */
    private static TitleCaller some() {
        TitleCaller x = new TitleCaller();
        x.bars(10);
        x.shortest(8);
        x.bar(3, 5, 77);
        x.repeat(1, 2);
        x.cut(6, 6);
        x.blackout(3, 3);
        x.title(TitleCaller.LINE, 1, 2, 11);
        x.save(1);
        x.title(TitleCaller.EACH, 4, 3, 12);
        x.title(TitleCaller.NOTE, 8, 4, 13);
        Check.write(x, "x7-8;l3+1:5;b0=1@99;-0");
        return x;
    }

    /** As many repeats, cuts, blackouts, titles and characters as there can be. */
    private static TitleCaller full() {
        TitleCaller x = new TitleCaller();
        for (int number = 0; number < 4; number++) {
            x.repeat(3 * number, 3 * number + 1);
            x.cut(20 + number, 20 + number);
            x.blackout(5 * number, 5 * number);
        }
        for (int number = 0; number < 20; number++) {
            x.title(number % 3, number, 1 + number % 4, 10 + number);
        }
        x.save(0);
        Check.write(x, "-19;-18;-17;-16;-15;-14;-13;-12;-11;-10;b31=12@20;b30=12@20;b29=12@20;b28=12@200");
        return x;
    }

    private static void refused(Supplier<TitleCaller> score, String call, ToIntFunction<TitleCaller> made, int error) {
        TitleCaller x = score.get();
        Check.due(call, made.applyAsInt(x), error);
        Check.same(call + " changes nothing", Told.byAllOf(x), Told.byAllOf(score.get()));
    }

    private static void unchanged(String call, ToIntFunction<TitleCaller> made) {
        TitleCaller x = some();
        made.applyAsInt(x);
        Check.same(call + " changes nothing", Told.byAllOf(x), Told.byAllOf(some()));
    }

    private static void changesThatAreRefused() {
        Supplier<TitleCaller> some = RefusedTest::some;
        for (int bars : new int[] {0, 61, -1, LOWEST, HIGHEST}) {
            refused(some, "bars(" + bars + ")", x -> x.bars(bars), BAD_VALUE);
        }
        for (int tenths : new int[] {-1, 51, LOWEST, HIGHEST}) {
            refused(some, "shortest(" + tenths + ")", x -> x.shortest(tenths), BAD_VALUE);
        }
        for (int bar : new int[] {-1, 10, 59, 60, LOWEST, HIGHEST}) {
            refused(some, "bar(" + bar + ", 4, 60)", x -> x.bar(bar, 4, 60), NO_SUCH);
            refused(some, "bar(" + bar + ", 0, 241)", x -> x.bar(bar, 0, 241), NO_SUCH);
            refused(some, "repeat(" + bar + ", 9)", x -> x.repeat(bar, 9), NO_SUCH);
            refused(some, "repeat(9, " + bar + ")", x -> x.repeat(9, bar), NO_SUCH);
            refused(some, "repeat(1, " + bar + ")", x -> x.repeat(1, bar), NO_SUCH);
            refused(some, "cut(" + bar + ", 9)", x -> x.cut(bar, 9), NO_SUCH);
            refused(some, "cut(9, " + bar + ")", x -> x.cut(9, bar), NO_SUCH);
            refused(some, "title(0, " + bar + ", 1, 1)", x -> x.title(0, bar, 1, 1), NO_SUCH);
            refused(some, "title(3, " + bar + ", 0, 81)", x -> x.title(3, bar, 0, 81), NO_SUCH);
        }
        for (int[] row : new int[][] {{0, 60}, {13, 60}, {4, 19}, {4, 241}, {LOWEST, 60}, {HIGHEST, 60}, {4, LOWEST}, {4, HIGHEST}, {-1, 0}}) {
            refused(some, "bar(9, " + row[0] + ", " + row[1] + ")", x -> x.bar(9, row[0], row[1]), BAD_VALUE);
        }
        for (int[] row : new int[][] {{9, 8}, {9, 0}, {1, 0}, {2, 1}}) {
            refused(some, "repeat(" + row[0] + ", " + row[1] + ")", x -> x.repeat(row[0], row[1]), BAD_VALUE);
            refused(some, "cut(" + row[0] + ", " + row[1] + ")", x -> x.cut(row[0], row[1]), BAD_VALUE);
        }
        for (int[] row : new int[][] {{-1, 0}, {-1, -1}, {1, 0}, {0, 200}, {200, 200}, {199, 198}, {LOWEST, 5}, {5, HIGHEST},
            {LOWEST, HIGHEST}, {HIGHEST, LOWEST}}) {
            refused(some, "blackout(" + row[0] + ", " + row[1] + ")", x -> x.blackout(row[0], row[1]), BAD_VALUE);
        }
        for (int what : new int[] {-1, 3, LOWEST, HIGHEST}) {
            refused(some, "undoSpan(" + what + ", 0)", x -> x.undoSpan(what, 0), BAD_VALUE);
            refused(some, "undoSpan(" + what + ", 9)", x -> x.undoSpan(what, 9), BAD_VALUE);
        }
        for (int number : new int[] {-1, 1, 4, LOWEST, HIGHEST}) {
            refused(some, "undoSpan(0, " + number + ")", x -> x.undoSpan(0, number), NO_SUCH);
            refused(some, "undoSpan(1, " + number + ")", x -> x.undoSpan(1, number), NO_SUCH);
            refused(some, "undoSpan(2, " + number + ")", x -> x.undoSpan(2, number), NO_SUCH);
        }
        for (int[] row : new int[][] {{-1, 1, 1}, {3, 1, 1}, {0, 0, 1}, {1, 21, 1}, {2, 1, 0}, {0, 1, 81}, {LOWEST, 1, 1},
            {HIGHEST, 1, 1}, {0, LOWEST, 1}, {0, HIGHEST, 1}, {0, 1, LOWEST}, {0, 1, HIGHEST}}) {
            refused(some, "title(" + row[0] + ", 9, " + row[1] + ", " + row[2] + ")", x -> x.title(row[0], 9, row[1], row[2]), BAD_VALUE);
        }
        for (int title : new int[] {-1, 3, 20, LOWEST, HIGHEST}) {
            refused(some, "drop(" + title + ")", x -> x.drop(title), NO_SUCH);
        }
    }

    private static void changesThatAreRefusedWhenAllIsFull() {
        Supplier<TitleCaller> full = RefusedTest::full;
        refused(full, "full: repeat(30, 31)", x -> x.repeat(30, 31), TOO_MANY);
        refused(full, "full: repeat(0, 1), TOO_MANY ahead of NOT_POSSIBLE", x -> x.repeat(0, 1), TOO_MANY);
        refused(full, "full: repeat(31, 30), BAD_VALUE ahead of TOO_MANY", x -> x.repeat(31, 30), BAD_VALUE);
        refused(full, "full: repeat(31, 32), NO_SUCH ahead of TOO_MANY", x -> x.repeat(31, 32), NO_SUCH);
        refused(full, "full: cut(30, 31)", x -> x.cut(30, 31), TOO_MANY);
        refused(full, "full: cut(31, 30), BAD_VALUE ahead of TOO_MANY", x -> x.cut(31, 30), BAD_VALUE);
        refused(full, "full: cut(32, 0), NO_SUCH ahead of both", x -> x.cut(32, 0), NO_SUCH);
        refused(full, "full: blackout(0, 0)", x -> x.blackout(0, 0), TOO_MANY);
        refused(full, "full: blackout(0, 200), BAD_VALUE ahead of TOO_MANY", x -> x.blackout(0, 200), BAD_VALUE);
        refused(full, "full: title(0, 0, 1, 1)", x -> x.title(0, 0, 1, 1), TOO_MANY);
        refused(full, "full: title(0, 0, 1, 81), BAD_VALUE ahead of TOO_MANY", x -> x.title(0, 0, 1, 81), BAD_VALUE);
        refused(full, "full: title(0, 32, 1, 1), NO_SUCH ahead of TOO_MANY", x -> x.title(0, 32, 1, 1), NO_SUCH);
        refused(full, "full: drop(20)", x -> x.drop(20), NO_SUCH);
        refused(full, "full: undoSpan(0, 4)", x -> x.undoSpan(0, 4), NO_SUCH);
        refused(full, "full: undoSpan(1, 4)", x -> x.undoSpan(1, 4), NO_SUCH);
        refused(full, "full: undoSpan(2, 3)", x -> x.undoSpan(2, 3), NO_SUCH);
        refused(full, "full: put('x')", x -> x.put('x'), TOO_MANY);
        refused(full, "full: put(32), BAD_VALUE ahead of TOO_MANY", x -> x.put(32), BAD_VALUE);
        refused(full, "full: cutIf(30, 31, 0)", x -> x.cutIf(30, 31, 0), TOO_MANY);
        refused(full, "full: cutIf(31, 30, 0), BAD_VALUE ahead of TOO_MANY", x -> x.cutIf(31, 30, 0), BAD_VALUE);
        refused(full, "full: cutIf(30, 31, 2), BAD_VALUE ahead of TOO_MANY", x -> x.cutIf(30, 31, 2), BAD_VALUE);
        refused(full, "full: cutIf(30, 32, 2), NO_SUCH ahead of all", x -> x.cutIf(30, 32, 2), NO_SUCH);
    }

    private static void refusedBecauseOthersStandInTheWay() {
        Supplier<TitleCaller> some = RefusedTest::some;
        refused(some, "bars(8) with a title at bar 8", x -> x.bars(8), NOT_POSSIBLE);
        refused(some, "bars(1) with all", x -> x.bars(1), NOT_POSSIBLE);
        refused(some, "bars(0) with all, BAD_VALUE ahead of NOT_POSSIBLE", x -> x.bars(0), BAD_VALUE);
        for (int[] row : new int[][] {{1, 2}, {1, 1}, {2, 2}, {0, 1}, {2, 3}, {0, 9}}) {
            refused(some, "repeat(" + row[0] + ", " + row[1] + ")", x -> x.repeat(row[0], row[1]), NOT_POSSIBLE);
        }
    }

    private static void looksThatAreRefused() {
        Supplier<TitleCaller> some = RefusedTest::some;
        for (int number : new int[] {-1, 120, LOWEST, HIGHEST}) {
            for (int what : new int[] {-1, 0, 7, 8, LOWEST, HIGHEST}) {
                refused(some, "ofBar(" + number + ", " + what + ")", x -> x.ofBar(number, what), NO_SUCH);
                refused(some, "sung(" + number + ", " + what + ")", x -> x.sung(number, what), NO_SUCH);
                refused(some, "ofTitle(" + number + ", " + what + ")", x -> x.ofTitle(number, what), NO_SUCH);
                refused(some, "showing(" + number + ", " + what + ")", x -> x.showing(number, what), NO_SUCH);
            }
            refused(some, "cutIf(" + number + ", 9, 0)", x -> x.cutIf(number, 9, 0), NO_SUCH);
            refused(some, "cutIf(9, " + number + ", 2)", x -> x.cutIf(9, number, 2), NO_SUCH);
        }
        for (int what : new int[] {-1, 15, LOWEST, HIGHEST}) {
            refused(some, "ofBar(9, " + what + ")", x -> x.ofBar(9, what), BAD_VALUE);
            refused(some, "sung(9, " + what + ")", x -> x.sung(9, what), BAD_VALUE);
            refused(some, "ofTitle(2, " + what + ")", x -> x.ofTitle(2, what), BAD_VALUE);
            refused(some, "showing(2, " + what + ")", x -> x.showing(2, what), BAD_VALUE);
            refused(some, "count(" + what + ")", x -> x.count(what), BAD_VALUE);
            refused(some, "cutIf(9, 9, " + what + ")", x -> x.cutIf(9, 9, what), BAD_VALUE);
        }
        refused(some, "ofBar(9, 6)", x -> x.ofBar(9, 6), BAD_VALUE);
        refused(some, "sung(9, 3)", x -> x.sung(9, 3), BAD_VALUE);
        refused(some, "ofTitle(2, 7)", x -> x.ofTitle(2, 7), BAD_VALUE);
        refused(some, "showing(2, 8)", x -> x.showing(2, 8), BAD_VALUE);
        refused(some, "cutIf(9, 9, 2)", x -> x.cutIf(9, 9, 2), BAD_VALUE);
        refused(some, "cutIf(9, 8, 1)", x -> x.cutIf(9, 8, 1), BAD_VALUE);
        for (int time : new int[] {-1, LOWEST}) {
            refused(some, "at(" + time + ")", x -> x.at(time), BAD_VALUE);
            refused(some, "slowest(" + time + ")", x -> x.slowest(time), BAD_VALUE);
        }
    }

    private static void textsThatAreRefused() {
        Supplier<TitleCaller> some = RefusedTest::some;
        for (long characters : new long[] {0, 1, 31, 32, 127, 128, 255, 256, 0x2100, 0x210021, -1, Long.MIN_VALUE, Long.MAX_VALUE}) {
            refused(some, "put(" + characters + ")", x -> x.put(characters), BAD_VALUE);
        }
        Supplier<TitleCaller> faulty = () -> {
            TitleCaller x = some();
            Check.write(x, ";x");
            return x;
        };
        refused(faulty, "carryOut() of a text that ends too early", TitleCaller::carryOut, BAD_TEXT);
        TitleCaller x = faulty.get();
        x.carryOut();
        Check.write(x, "9-9");
        Check.due("carryOut() of the text that stayed", x.carryOut(), 5);
        refused(TitleCaller::new, "carryOut() of an empty pad", TitleCaller::carryOut, BAD_TEXT);
    }

    private static void historyThatIsRefused() {
        for (int slot : new int[] {-1, 2, LOWEST, HIGHEST}) {
            refused(RefusedTest::some, "save(" + slot + ")", x -> x.save(slot), BAD_VALUE);
            refused(RefusedTest::some, "restore(" + slot + ")", x -> x.restore(slot), BAD_VALUE);
        }
        refused(RefusedTest::some, "restore(0), nothing saved", x -> x.restore(0), NOT_POSSIBLE);
        refused(TitleCaller::new, "undo(), no change", TitleCaller::undo, NOT_POSSIBLE);
        Supplier<TitleCaller> allUndone = () -> {
            TitleCaller x = some();
            while (x.undo() > 0) {
                x.count(14);
            }
            return x;
        };
        refused(allUndone, "undo(), all undone", TitleCaller::undo, NOT_POSSIBLE);
    }

    /** A refused order changes nothing; that the text was carried out is the only change. */
    private static void ordersThatAreRefused() {
        String[] orders = {"b10=4@60", "b999=999@999", "b9=0@60", "b9=13@60", "b9=4@19", "b9=4@241", "r9-10", "r10-9", "r9-8", "r1-1",
            "r0-2", "x9-10", "x10-9", "x9-8", "l10+1:1", "e9+0:1", "n9+21:1", "l9+1:0", "e9+1:81", "n999+0:0", "-3", "-999"};
        for (String order : orders) {
            TitleCaller x = some();
            x.wipe();
            int[] before = Told.by(x);
            Check.write(x, order);
            Check.due("carryOut() of " + order, x.carryOut(), 0);
            Check.same("carryOut() of " + order + " changes nothing", Told.by(x), before);
            x.undo();
            Check.same("undo() of carryOut() of " + order, withHistoryOf(Told.by(x), 6), before);
        }
    }

    private static int[] withHistoryOf(int[] told, int changes) {
        int[] copy = told.clone();
        copy[14] = changes;
        return copy;
    }

    private static void noneOnlyIfNoErrorApplies() {
        TitleCaller x = some();
        Check.due("ofBar(6, 4): not sung", x.ofBar(6, 4), NONE);
        Check.due("ofBar(6, 6)", x.ofBar(6, 6), BAD_VALUE);
        Check.due("ofBar(10, 4)", x.ofBar(10, 4), NO_SUCH);
        x.shortest(0);
        x.blackout(0, 199);
        for (int what = 5; what <= 7; what++) {
            Check.due("showing(0, " + what + "): does not show", x.showing(0, what), NONE);
            Check.due("showing(3, " + what + ")", x.showing(3, what), NO_SUCH);
        }
        Check.due("showing(0, 8)", x.showing(0, 8), BAD_VALUE);
        Check.due("at(0): none shows", x.at(0), NONE);
        Check.due("at(-1): none shows", x.at(-1), BAD_VALUE);
        Check.due("slowest(0)", x.slowest(0), NONE);
        Check.due("slowest(-1)", x.slowest(-1), BAD_VALUE);
        Check.due("fault()", x.fault(), NONE);
    }

    private static void looksChangeNothing() {
        unchanged("what only looks", x -> Told.by(x).length);
        for (int what = 0; what <= 1; what++) {
            int about = what;
            unchanged("cutIf(0, 9, " + what + ")", x -> x.cutIf(0, 9, about));
            unchanged("cutIf(4, 4, " + what + ")", x -> x.cutIf(4, 4, about));
        }
        unchanged("slowest(0)", x -> x.slowest(0));
        unchanged("slowest(500)", x -> x.slowest(500));
        unchanged("slowest(100000)", x -> x.slowest(100000));
        unchanged("fault()", TitleCaller::fault);
        unchanged("save(1) of another object", x -> new TitleCaller().save(1));
    }

    /** Two objects have nothing in common. */
    private static void noneChangesNothing() {
        TitleCaller x = some();
        TitleCaller other = full();
        other.carryOut();
        other.restore(0);
        other.undo();
        other.save(1);
        other.wipe();
        Check.same("another object changes nothing", Told.byAllOf(x), Told.byAllOf(some()));
    }
}
