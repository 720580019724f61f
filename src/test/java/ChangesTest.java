/** Promises 1 to 10: a new object, and what changes it. */
public final class ChangesTest {
    private static final int LOWEST = Integer.MIN_VALUE;
    private static final int HIGHEST = Integer.MAX_VALUE;

    public static void main(String[] args) {
        promise1NewObject();
        promise2Bars();
        promise3Shortest();
        promise4Bar();
        promise5Repeat();
        promise6Cut();
        promise7Blackout();
        promise8UndoSpan();
        promise9Title();
        promise10Drop();
        Check.finish("ChangesTest");
    }

    private static void promise1NewObject() {
        TitleCaller x = new TitleCaller();
        int[] counts = {32, 0, 0, 0, 0, 10, 32, 1280, 0, 0, 0, 0, 0, 0, 0};
        for (int what = 0; what < counts.length; what++) {
            Check.due("1 count(" + what + ")", x.count(what), counts[what]);
        }
        for (int bar = 0; bar < 32; bar++) {
            Check.due("1 beats of " + bar, x.ofBar(bar, 0), 4);
            Check.due("1 tempo of " + bar, x.ofBar(bar, 1), 60);
            Check.due("1 place of " + bar, x.ofBar(bar, 4), bar);
        }
        Check.due("1 ofBar(32, 0)", x.ofBar(32, 0), TitleCaller.NO_SUCH);
        Check.due("1 bars(60)", x.bars(60), 32);
        Check.due("1 tenths of 59", x.ofBar(59, 2), 40);
        Check.due("1 fault()", x.fault(), 0);
        Check.due("1 at(0)", x.at(0), TitleCaller.NONE);
    }

    private static void promise2Bars() {
        TitleCaller x = new TitleCaller();
        int[] bad = {0, 61, -1, LOWEST, HIGHEST};
        for (int bars : bad) {
            Check.due("2 bars(" + bars + ")", x.bars(bars), TitleCaller.BAD_VALUE);
        }
        Check.due("2 nothing recorded", x.count(14), 0);
        Check.due("2 bars(1)", x.bars(1), 32);
        Check.due("2 bars(60)", x.bars(60), 1);
        Check.due("2 recorded", x.count(14), 2);
        Check.due("2 bar(40, 3, 120)", x.bar(40, 3, 120), 15);
        Check.due("2 bars(40)", x.bars(40), 60);
        Check.due("2 ofBar(40, 0)", x.ofBar(40, 0), TitleCaller.NO_SUCH);
        Check.due("2 bars(41)", x.bars(41), 40);
        Check.due("2 comes again as it was", x.ofBar(40, 2), 15);
        Check.due("2 end of the night", x.count(7), 1615);
        barsNeededByRepeat();
        barsNeededByCut();
        barsNeededByTitle();
    }

    private static void barsNeededByRepeat() {
        TitleCaller x = new TitleCaller();
        x.repeat(3, 9);
        Check.due("2 bars(9) with a repeat", x.bars(9), TitleCaller.NOT_POSSIBLE);
        Check.due("2 bars(0) with a repeat", x.bars(0), TitleCaller.BAD_VALUE);
        Check.due("2 errors record nothing", x.count(14), 1);
        Check.due("2 bars(10) with a repeat", x.bars(10), 32);
    }

    private static void barsNeededByCut() {
        TitleCaller x = new TitleCaller();
        x.cut(2, 5);
        x.cut(1, 1);
        Check.due("2 bars(5) with a cut", x.bars(5), TitleCaller.NOT_POSSIBLE);
        Check.due("2 bars(6) with a cut", x.bars(6), 32);
        Check.due("2 BARS", x.count(0), 6);
    }

    private static void barsNeededByTitle() {
        TitleCaller x = new TitleCaller();
        x.title(TitleCaller.EACH, 7, 20, 1);
        x.blackout(100, 199);
        Check.due("2 bars(7) with a title", x.bars(7), TitleCaller.NOT_POSSIBLE);
        Check.due("2 bars(8): only its bar counts", x.bars(8), 32);
    }

    private static void promise3Shortest() {
        TitleCaller x = new TitleCaller();
        int[] bad = {-1, 51, LOWEST, HIGHEST};
        for (int tenths : bad) {
            Check.due("3 shortest(" + tenths + ")", x.shortest(tenths), TitleCaller.BAD_VALUE);
        }
        Check.due("3 nothing changed", x.count(5), 10);
        Check.due("3 shortest(0)", x.shortest(0), 10);
        Check.due("3 shortest(50)", x.shortest(50), 0);
        Check.due("3 shortest(50) again", x.shortest(50), 50);
        Check.due("3 SHORT", x.count(5), 50);
        Check.due("3 recorded", x.count(14), 3);
    }

    private static void promise4Bar() {
        TitleCaller x = new TitleCaller();
        Check.due("4 no such bar first", x.bar(32, 0, 0), TitleCaller.NO_SUCH);
        Check.due("4 bar -1", x.bar(-1, 4, 60), TitleCaller.NO_SUCH);
        Check.due("4 bar lowest", x.bar(LOWEST, 4, 60), TitleCaller.NO_SUCH);
        Check.due("4 bar highest", x.bar(HIGHEST, 4, 60), TitleCaller.NO_SUCH);
        Check.due("4 beats 0", x.bar(0, 0, 60), TitleCaller.BAD_VALUE);
        Check.due("4 beats 13", x.bar(0, 13, 60), TitleCaller.BAD_VALUE);
        Check.due("4 tempo 19", x.bar(0, 4, 19), TitleCaller.BAD_VALUE);
        Check.due("4 tempo 241", x.bar(0, 4, 241), TitleCaller.BAD_VALUE);
        Check.due("4 nothing recorded", x.count(14), 0);
        Check.due("4 longest", x.bar(31, 12, 20), 360);
        Check.due("4 shortest", x.bar(0, 1, 240), 2);
        Check.due("4 rounded down", x.bar(1, 5, 77), 38);
        Check.due("4 its beats", x.ofBar(1, 0), 5);
        Check.due("4 its tempo", x.ofBar(1, 1), 77);
        Check.due("4 end of the night", x.count(7), 29 * 40 + 360 + 2 + 38);
        Check.due("4 recorded", x.count(14), 3);
    }

    private static void promise5Repeat() {
        TitleCaller x = new TitleCaller();
        Check.due("5 no such bar first", x.repeat(32, 3), TitleCaller.NO_SUCH);
        Check.due("5 no such last bar", x.repeat(0, 32), TitleCaller.NO_SUCH);
        Check.due("5 last -1", x.repeat(0, -1), TitleCaller.NO_SUCH);
        Check.due("5 lowest", x.repeat(LOWEST, HIGHEST), TitleCaller.NO_SUCH);
        Check.due("5 last below first", x.repeat(4, 3), TitleCaller.BAD_VALUE);
        Check.due("5 first", x.repeat(4, 6), 0);
        Check.due("5 meets its first bar", x.repeat(2, 4), TitleCaller.NOT_POSSIBLE);
        Check.due("5 meets its last bar", x.repeat(6, 9), TitleCaller.NOT_POSSIBLE);
        Check.due("5 inside", x.repeat(5, 5), TitleCaller.NOT_POSSIBLE);
        Check.due("5 around", x.repeat(0, 31), TitleCaller.NOT_POSSIBLE);
        Check.due("5 right ahead", x.repeat(3, 3), 1);
        Check.due("5 right behind", x.repeat(7, 8), 2);
        Check.due("5 at the end", x.repeat(31, 31), 3);
        Check.due("5 too many before not possible", x.repeat(5, 5), TitleCaller.TOO_MANY);
        Check.due("5 too many", x.repeat(20, 21), TitleCaller.TOO_MANY);
        Check.due("5 bad value before too many", x.repeat(21, 20), TitleCaller.BAD_VALUE);
        Check.due("5 recorded", x.count(14), 4);
        int[] bars = {0, 1, 2, 3, 3, 4, 5, 6, 4, 5, 6, 7, 8, 7, 8, 9};
        for (int place = 0; place < bars.length; place++) {
            Check.due("5 bar at " + place, x.sung(place, 0), bars[place]);
        }
        Check.due("5 sung bars", x.count(6), 39);
        Check.due("5 last but one", x.sung(37, 0), 31);
        Check.due("5 last", x.sung(38, 0), 31);
    }

    private static void promise6Cut() {
        TitleCaller x = new TitleCaller();
        Check.due("6 no such bar first", x.cut(32, 3), TitleCaller.NO_SUCH);
        Check.due("6 no such last bar", x.cut(0, 32), TitleCaller.NO_SUCH);
        Check.due("6 last below first", x.cut(5, 4), TitleCaller.BAD_VALUE);
        x.repeat(2, 4);
        Check.due("6 first", x.cut(3, 3), 0);
        Check.due("6 sung bars: cut in the repeat, too", x.count(6), 33);
        Check.due("6 bar at 3", x.sung(3, 0), 4);
        Check.due("6 bar at 4", x.sung(4, 0), 2);
        Check.due("6 bar at 5", x.sung(5, 0), 4);
        Check.due("6 cuts may overlap", x.cut(3, 3), 1);
        Check.due("6 over it", x.cut(0, 31), 2);
        Check.due("6 nothing is sung", x.count(6), 0);
        Check.due("6 the night takes 0", x.count(7), 0);
        Check.due("6 fourth", x.cut(10, 12), 3);
        Check.due("6 too many", x.cut(10, 12), TitleCaller.TOO_MANY);
        Check.due("6 bad value before too many", x.cut(12, 10), TitleCaller.BAD_VALUE);
        Check.due("6 no such before too many", x.cut(12, 32), TitleCaller.NO_SUCH);
        Check.due("6 recorded", x.count(14), 5);
        repeatWithItsLastBarCut();
    }

    private static void repeatWithItsLastBarCut() {
        TitleCaller x = new TitleCaller();
        x.bars(4);
        x.repeat(1, 2);
        x.cut(2, 2);
        int[] bars = {0, 1, 1, 3};
        Check.due("6 places", x.count(6), bars.length);
        for (int place = 0; place < bars.length; place++) {
            Check.due("6 place " + place, x.sung(place, 0), bars[place]);
        }
    }

    private static void promise7Blackout() {
        TitleCaller x = new TitleCaller();
        Check.due("7 first -1", x.blackout(-1, 0), TitleCaller.BAD_VALUE);
        Check.due("7 last below first", x.blackout(3, 2), TitleCaller.BAD_VALUE);
        Check.due("7 last 200", x.blackout(0, 200), TitleCaller.BAD_VALUE);
        Check.due("7 lowest", x.blackout(LOWEST, HIGHEST), TitleCaller.BAD_VALUE);
        Check.due("7 not there now", x.blackout(199, 199), 0);
        Check.due("7 one place", x.blackout(0, 0), 1);
        Check.due("7 may overlap", x.blackout(0, 1), 2);
        Check.due("7 too many", x.blackout(5, 6), TitleCaller.TOO_MANY);
        Check.due("7 bad value before too many", x.blackout(6, 5), TitleCaller.BAD_VALUE);
        Check.due("7 recorded", x.count(14), 3);
        Check.due("7 place 1", x.sung(1, 2), 1);
        Check.due("7 place 2", x.sung(2, 2), 0);
    }

    private static void promise8UndoSpan() {
        TitleCaller x = new TitleCaller();
        int[] bad = {-1, 3, LOWEST, HIGHEST};
        for (int what : bad) {
            Check.due("8 undoSpan(" + what + ", 0)", x.undoSpan(what, 0), TitleCaller.BAD_VALUE);
        }
        for (int what = 0; what < 3; what++) {
            Check.due("8 none of sort " + what, x.undoSpan(what, 0), TitleCaller.NO_SUCH);
            Check.due("8 number -1 of sort " + what, x.undoSpan(what, -1), TitleCaller.NO_SUCH);
        }
        x.repeat(1, 2);
        x.repeat(4, 5);
        x.repeat(7, 7);
        x.cut(9, 9);
        x.blackout(0, 1);
        x.blackout(3, 4);
        Check.due("8 drops the first repeat", x.undoSpan(0, 0), 2);
        Check.due("8 bar 1 once", x.ofBar(1, 3), 1);
        Check.due("8 bar 5 twice", x.ofBar(5, 3), 2);
        Check.due("8 those behind move up", x.undoSpan(0, 1), 1);
        Check.due("8 bar 7 once", x.ofBar(7, 3), 1);
        Check.due("8 bar 4 twice", x.ofBar(4, 3), 2);
        Check.due("8 cuts", x.undoSpan(1, 1), TitleCaller.NO_SUCH);
        Check.due("8 cut", x.undoSpan(1, 0), 0);
        Check.due("8 bar 9 is sung", x.ofBar(9, 5), 0);
        Check.due("8 blackout", x.undoSpan(2, 0), 1);
        Check.due("8 place 0", x.sung(0, 2), 0);
        Check.due("8 place 4", x.sung(4, 2), 1);
        Check.due("8 recorded", x.count(14), 6);
        Check.due("8 undo", x.undo(), 5);
        Check.due("8 blackouts again", x.count(3), 2);
        Check.due("8 a new one behind", x.repeat(7, 7), 1);
        fullRowsLoseTheirFirst();
    }

    private static void fullRowsLoseTheirFirst() {
        TitleCaller x = new TitleCaller();
        for (int number = 0; number < 4; number++) {
            x.repeat(2 * number, 2 * number);
            x.cut(20 + number, 20 + number);
            x.blackout(5 * number, 5 * number);
        }
        for (int left = 3; left >= 0; left--) {
            Check.due("8 repeats left", x.undoSpan(0, 0), left);
            Check.due("8 cuts left", x.undoSpan(1, 0), left);
            Check.due("8 the last repeat stands", x.ofBar(6, 3), left > 0 ? 2 : 1);
            Check.due("8 the last cut stands", x.ofBar(23, 5), left > 0 ? 1 : 0);
        }
        Check.due("8 blackouts left", x.undoSpan(2, 0), 2);
        Check.due("8 its place", x.sung(0, 2), 0);
        Check.due("8 the last blackout stands", x.sung(10, 2), 1);
    }

    private static void promise9Title() {
        TitleCaller x = new TitleCaller();
        Check.due("9 no such bar first", x.title(3, 32, 0, 0), TitleCaller.NO_SUCH);
        Check.due("9 bar -1", x.title(0, -1, 1, 1), TitleCaller.NO_SUCH);
        int[][] bad = {{-1, 1, 1}, {3, 1, 1}, {0, 0, 1}, {0, 21, 1}, {0, 1, 0}, {0, 1, 81},
            {LOWEST, 1, 1}, {0, HIGHEST, 1}, {0, 1, LOWEST}};
        for (int[] row : bad) {
            Check.due("9 bad value", x.title(row[0], 0, row[1], row[2]), TitleCaller.BAD_VALUE);
        }
        Check.due("9 nothing recorded", x.count(14), 0);
        for (int number = 0; number < 20; number++) {
            Check.due("9 title " + number, x.title(number % 3, 31, 20, 80), number);
        }
        Check.due("9 too many", x.title(0, 0, 1, 1), TitleCaller.TOO_MANY);
        Check.due("9 bad value before too many", x.title(0, 0, 0, 1), TitleCaller.BAD_VALUE);
        Check.due("9 no such before too many", x.title(0, 32, 1, 1), TitleCaller.NO_SUCH);
        Check.due("9 titles", x.count(4), 20);
        Check.due("9 recorded", x.count(14), 6);
        Check.due("9 kind", x.ofTitle(19, 0), TitleCaller.EACH);
        Check.due("9 bar", x.ofTitle(19, 1), 31);
        Check.due("9 bars", x.ofTitle(19, 2), 20);
        Check.due("9 letters", x.ofTitle(19, 3), 80);
        Check.due("9 the first of 20 is dropped", x.drop(0), 19);
        Check.due("9 the last moves up", x.ofTitle(18, 0), TitleCaller.EACH);
    }

    private static void promise10Drop() {
        TitleCaller x = new TitleCaller();
        Check.due("10 none", x.drop(0), TitleCaller.NO_SUCH);
        x.title(0, 5, 1, 11);
        x.title(1, 6, 2, 12);
        x.title(2, 7, 3, 13);
        Check.due("10 -1", x.drop(-1), TitleCaller.NO_SUCH);
        Check.due("10 3", x.drop(3), TitleCaller.NO_SUCH);
        Check.due("10 highest", x.drop(HIGHEST), TitleCaller.NO_SUCH);
        Check.due("10 drops", x.drop(0), 2);
        int[] second = {1, 6, 2, 12};
        int[] third = {2, 7, 3, 13};
        for (int what = 0; what < 4; what++) {
            Check.due("10 moved up, 0, " + what, x.ofTitle(0, what), second[what]);
            Check.due("10 moved up, 1, " + what, x.ofTitle(1, what), third[what]);
        }
        Check.due("10 no third", x.ofTitle(2, 0), TitleCaller.NO_SUCH);
        Check.due("10 showings", x.count(8), 2);
        Check.due("10 recorded", x.count(14), 4);
        Check.due("10 drops the last", x.drop(1), 1);
        Check.due("10 drops the only", x.drop(0), 0);
        Check.due("10 showings of none", x.count(8), 0);
    }
}
