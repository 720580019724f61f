/** The edges of promises 1 to 8 and of the terms of the score: a test for each sentence that names one. */
public final class ScoreEdgesTest {
    private static final int NO_SUCH = TitleCaller.NO_SUCH, BAD_VALUE = TitleCaller.BAD_VALUE, TOO_MANY = TitleCaller.TOO_MANY,
            NOT_POSSIBLE = TitleCaller.NOT_POSSIBLE, NONE = TitleCaller.NONE;

    public static void main(String[] args) {
        newObjectIsEmpty();
        barsFromOneToSixty();
        barsThatComeAgainAreAsTheyWere();
        barsThatAreNotThereDoNotChange();
        barsAsFewAsWhatIsTiedToThem();
        barsDespiteWhatWasDropped();
        barsDespiteWhatIsNotTiedToThem();
        barsAsTheyAreAlready();
        shortestFromNoneToFifty();
        barOfAllBeatsAndTempi();
        barTenthsAreRoundedOneByOne();
        repeatFromABarToTheSame();
        repeatOfTheFirstAndTheLastBar();
        repeatOfAll();
        repeatsSideBySide();
        repeatsWithABarInCommon();
        repeatsFourAndNoMore();
        repeatsAreNumberedAsTheyCame();
        cutOfOneBar();
        cutsMayOverlap();
        cutsFourAndNoMore();
        cutWhereverBarsCome();
        cutOfAll();
        blackoutsFromPlaceToPlace();
        blackoutOfAPlaceThatIsNotThereNow();
        blackoutsThreeAndNoMore();
        spansMoveUp();
        spansUntilNoneIsLeft();
        Check.finish("ScoreEdgesTest");
    }

    private static void dueSung(String what, TitleCaller x, int... bars) {
        Check.due(what + ": places", x.count(6), bars.length);
        for (int place = 0; place < bars.length; place++) {
            Check.due(what + ": bar at " + place, x.sung(place, 0), bars[place]);
        }
        Check.due(what + ": no place behind", x.sung(bars.length, 0), NO_SUCH);
    }

    private static void newObjectIsEmpty() {
        TitleCaller x = new TitleCaller();
        Check.due("1 the last bar", x.ofBar(31, 1), 60);
        Check.due("1 no bar behind it", x.ofBar(32, 1), NO_SUCH);
        Check.due("1 the last place", x.sung(31, 1), 1240);
        Check.due("1 no place behind it", x.sung(32, 1), NO_SUCH);
        Check.due("1 no title", x.ofTitle(0, 0), NO_SUCH);
        Check.due("1 none to drop", x.drop(0), NO_SUCH);
        Check.due("1 no showing", x.showing(0, 0), NO_SUCH);
        for (int what = 0; what < 3; what++) {
            Check.due("1 no span of sort " + what, x.undoSpan(what, 0), NO_SUCH);
        }
        Check.due("1 nothing to undo", x.undo(), NOT_POSSIBLE);
        Check.due("1 slot 0 is empty", x.restore(0), NOT_POSSIBLE);
        Check.due("1 slot 1 is empty", x.restore(1), NOT_POSSIBLE);
        Check.due("1 the pad is empty", x.wipe(), 0);
        Check.due("1 an empty text ends too early", x.fault(), 0);
        Check.due("1 and cannot be carried out", x.carryOut(), TitleCaller.BAD_TEXT);
        Check.due("1 nothing shows at the end", x.at(1280), NONE);
        Check.due("1 the first number", x.title(0, 0, 1, 1), 0);
    }

    private static void barsFromOneToSixty() {
        TitleCaller x = new TitleCaller();
        Check.due("2 too few", x.bars(0), BAD_VALUE);
        Check.due("2 the fewest", x.bars(1), 32);
        Check.due("2 the only bar", x.ofBar(0, 4), 0);
        Check.due("2 no other", x.ofBar(1, 4), NO_SUCH);
        Check.due("2 the night of one bar", x.count(7), 40);
        Check.due("2 too many", x.bars(61), BAD_VALUE);
        Check.due("2 the most", x.bars(60), 1);
        Check.due("2 the last bar", x.ofBar(59, 4), 59);
        Check.due("2 no other behind it", x.ofBar(60, 4), NO_SUCH);
        Check.due("2 the night of sixty bars", x.count(7), 2400);
        Check.due("2 the fewest again", x.bars(1), 60);
        Check.due("2 the previous number is told", x.bars(2), 1);
    }

    private static void barsThatComeAgainAreAsTheyWere() {
        TitleCaller x = new TitleCaller();
        x.bars(60);
        x.bar(59, 12, 20);
        x.bar(1, 1, 240);
        x.bars(1);
        Check.due("2 the bar is away", x.ofBar(59, 2), NO_SUCH);
        x.bars(59);
        Check.due("2 bar 1 comes again", x.ofBar(1, 2), 2);
        Check.due("2 bar 59 is still away", x.ofBar(59, 2), NO_SUCH);
        x.bars(60);
        Check.due("2 bar 59 comes again: beats", x.ofBar(59, 0), 12);
        Check.due("2 bar 59 comes again: tempo", x.ofBar(59, 1), 20);
        Check.due("2 the night with both", x.count(7), 58 * 40 + 360 + 2);
    }

    private static void barsThatAreNotThereDoNotChange() {
        TitleCaller x = new TitleCaller();
        x.bars(10);
        Check.due("4 a bar that is away", x.bar(10, 1, 240), NO_SUCH);
        Check.due("4 a bar that is there", x.bar(9, 1, 240), 2);
        x.bars(32);
        Check.due("4 the one that was away is as it was", x.ofBar(10, 2), 40);
        Check.due("4 the one that was there is not", x.ofBar(9, 2), 2);
    }

    private static void barsAsFewAsWhatIsTiedToThem() {
        int[][] repeats = {{7, 7}, {3, 7}, {0, 7}};
        for (int[] row : repeats) {
            TitleCaller x = new TitleCaller();
            x.repeat(row[0], row[1]);
            Check.due("2 without the last bar of a repeat", x.bars(7), NOT_POSSIBLE);
            Check.due("2 with it", x.bars(8), 32);
            Check.due("2 without it, too", x.bars(1), NOT_POSSIBLE);
            x.undoSpan(0, 0);
            Check.due("2 when it is dropped", x.bars(1), 8);
        }
        for (int[] row : repeats) {
            TitleCaller x = new TitleCaller();
            x.cut(row[0], row[1]);
            Check.due("2 without the last bar of a cut", x.bars(7), NOT_POSSIBLE);
            Check.due("2 with it", x.bars(8), 32);
            x.undoSpan(1, 0);
            Check.due("2 when it is dropped", x.bars(1), 8);
        }
        for (int kind = 0; kind < 3; kind++) {
            TitleCaller x = new TitleCaller();
            x.title(kind, 7, 1, 1);
            x.title(kind, 2, 1, 1);
            Check.due("2 without the bar of a title", x.bars(7), NOT_POSSIBLE);
            Check.due("2 with it", x.bars(8), 32);
            x.drop(0);
            Check.due("2 when it is dropped", x.bars(7), 8);
            Check.due("2 the other one needs its own", x.bars(2), NOT_POSSIBLE);
            Check.due("2 and no more", x.bars(3), 7);
        }
    }

    private static void barsDespiteWhatWasDropped() {
        TitleCaller x = new TitleCaller();
        for (int number = 0; number < 20; number++) {
            x.title(TitleCaller.LINE, number, 1, 1);
        }
        Check.due("2 without the bar of the last of 20 titles", x.bars(19), NOT_POSSIBLE);
        x.drop(19);
        Check.due("2 when the last one is dropped", x.bars(19), 32);
        TitleCaller y = new TitleCaller();
        for (int number = 0; number < 4; number++) {
            y.repeat(number, number);
            y.cut(number, number);
        }
        Check.due("2 without the last bar of the last of four", y.bars(3), NOT_POSSIBLE);
        y.undoSpan(0, 3);
        Check.due("2 the cut is there still", y.bars(3), NOT_POSSIBLE);
        y.undoSpan(1, 3);
        Check.due("2 when the last ones are dropped", y.bars(3), 32);
    }

    private static void barsDespiteWhatIsNotTiedToThem() {
        TitleCaller x = new TitleCaller();
        x.title(TitleCaller.EACH, 0, 20, 80);
        x.blackout(1, 199);
        Check.due("2 bars for which a title lasts, and places of a blackout", x.bars(1), 32);
        Check.due("2 it lasts until the end of the night", x.showing(0, 6), 40);
    }

    private static void barsAsTheyAreAlready() {
        TitleCaller x = new TitleCaller();
        x.title(TitleCaller.LINE, 31, 1, 1);
        Check.due("2 as many as there are", x.bars(32), 32);
        Check.due("2 is a change", x.count(14), 2);
    }

    private static void shortestFromNoneToFifty() {
        TitleCaller x = new TitleCaller();
        Check.due("3 too short", x.shortest(-1), BAD_VALUE);
        Check.due("3 too long", x.shortest(51), BAD_VALUE);
        Check.due("3 the longest", x.shortest(50), 10);
        Check.due("3 the shortest", x.shortest(0), 50);
        Check.due("3 is told", x.shortest(1), 0);
    }

    private static void barOfAllBeatsAndTempi() {
        TitleCaller x = new TitleCaller();
        for (int beats = 0; beats <= 13; beats++) {
            for (int tempo : new int[] {19, 20, 21, 239, 240, 241}) {
                boolean good = beats >= 1 && beats <= 12 && tempo >= 20 && tempo <= 240;
                int due = good ? 600 * beats / tempo : BAD_VALUE;
                Check.due("4 bar(31, " + beats + ", " + tempo + ")", x.bar(31, beats, tempo), due);
            }
        }
        Check.due("4 the first bar", x.bar(0, 1, 240), 2);
        Check.due("4 a bar ahead of it", x.bar(-1, 1, 240), NO_SUCH);
        Check.due("4 a bar behind the last one", x.bar(32, 1, 240), NO_SUCH);
        Check.due("4 a bar as it is already", x.bar(0, 1, 240), 2);
    }

    private static void barTenthsAreRoundedOneByOne() {
        TitleCaller x = new TitleCaller();
        x.bars(3);
        for (int bar = 0; bar < 3; bar++) {
            x.bar(bar, 1, 240);
        }
        Check.due("4 three times 2, not 7", x.count(7), 6);
        Check.due("4 the third one begins", x.sung(2, 1), 4);
        Check.due("4 just below a whole tenth", x.bar(0, 11, 236), 27);
        Check.due("4 a whole tenth", x.bar(0, 9, 216), 25);
    }

    private static void repeatFromABarToTheSame() {
        TitleCaller x = new TitleCaller();
        x.bars(3);
        Check.due("5 from a bar to the same", x.repeat(1, 1), 0);
        dueSung("5 once more, and then it goes on", x, 0, 1, 1, 2);
    }

    private static void repeatOfTheFirstAndTheLastBar() {
        TitleCaller x = new TitleCaller();
        x.bars(3);
        Check.due("5 the last bar", x.repeat(2, 2), 0);
        Check.due("5 the first bar", x.repeat(0, 0), 1);
        dueSung("5 both", x, 0, 0, 1, 2, 2);
        Check.due("5 behind the last bar", x.repeat(3, 3), NO_SUCH);
        Check.due("5 ahead of the first bar", x.repeat(-1, -1), NO_SUCH);
        Check.due("5 from the last bar to behind it", x.repeat(1, 3), NO_SUCH);
    }

    private static void repeatOfAll() {
        TitleCaller x = new TitleCaller();
        x.bars(3);
        Check.due("5 all", x.repeat(0, 2), 0);
        dueSung("5 all twice", x, 0, 1, 2, 0, 1, 2);
        for (int bar = 0; bar < 3; bar++) {
            Check.due("5 no bar is left", x.repeat(bar, bar), NOT_POSSIBLE);
        }
        x.bars(4);
        Check.due("5 but a new one", x.repeat(3, 3), 1);
        dueSung("5 with the new one", x, 0, 1, 2, 0, 1, 2, 3, 3);
    }

    private static void repeatsSideBySide() {
        TitleCaller x = new TitleCaller();
        x.bars(5);
        Check.due("5 first", x.repeat(1, 2), 0);
        Check.due("5 right ahead of it", x.repeat(0, 0), 1);
        Check.due("5 right behind it", x.repeat(3, 4), 2);
        dueSung("5 side by side", x, 0, 0, 1, 2, 1, 2, 3, 4, 3, 4);
    }

    private static void repeatsWithABarInCommon() {
        int[][] common = {{4, 6}, {4, 4}, {6, 6}, {5, 5}, {0, 4}, {6, 9}, {3, 7}, {4, 5}, {5, 6}, {0, 31}};
        for (int[] row : common) {
            TitleCaller x = new TitleCaller();
            x.repeat(20, 21);
            x.repeat(4, 6);
            Check.due("5 " + row[0] + " to " + row[1], x.repeat(row[0], row[1]), NOT_POSSIBLE);
            x.undoSpan(0, 0);
            Check.due("5 still " + row[0] + " to " + row[1], x.repeat(row[0], row[1]), NOT_POSSIBLE);
            x.undoSpan(0, 0);
            Check.due("5 no more " + row[0] + " to " + row[1], x.repeat(row[0], row[1]), 0);
        }
    }

    private static void repeatsFourAndNoMore() {
        TitleCaller x = new TitleCaller();
        for (int number = 0; number < 4; number++) {
            Check.due("5 repeat " + number, x.repeat(number, number), number);
        }
        Check.due("5 a fifth", x.repeat(9, 9), TOO_MANY);
        Check.due("5 a fifth with a bar in common", x.repeat(3, 3), TOO_MANY);
        Check.due("5 there are four", x.count(1), 4);
        x.undoSpan(0, 2);
        Check.due("5 room for one", x.repeat(2, 2), 3);
        Check.due("5 for one alone", x.repeat(9, 9), TOO_MANY);
    }

    private static void repeatsAreNumberedAsTheyCame() {
        TitleCaller x = new TitleCaller();
        x.bars(6);
        x.repeat(4, 5);
        x.repeat(0, 1);
        x.undoSpan(0, 0);
        dueSung("5 the first one that came is away", x, 0, 1, 0, 1, 2, 3, 4, 5);
    }

    private static void cutOfOneBar() {
        TitleCaller x = new TitleCaller();
        x.bars(3);
        Check.due("6 the last bar", x.cut(2, 2), 0);
        dueSung("6 without the last bar", x, 0, 1);
        Check.due("6 the first bar", x.cut(0, 0), 1);
        dueSung("6 nor the first one", x, 1);
        Check.due("6 the first one sung begins at 0", x.sung(0, 1), 0);
        Check.due("6 behind the last bar", x.cut(3, 3), NO_SUCH);
        Check.due("6 ahead of the first bar", x.cut(-1, 2), NO_SUCH);
        Check.due("6 last below first", x.cut(1, 0), BAD_VALUE);
    }

    private static void cutsMayOverlap() {
        TitleCaller x = new TitleCaller();
        x.bars(5);
        Check.due("6 a cut", x.cut(1, 3), 0);
        Check.due("6 the same once more", x.cut(1, 3), 1);
        Check.due("6 one that overlaps", x.cut(3, 4), 2);
        dueSung("6 all three", x, 0);
        Check.due("6 one of the same is dropped", x.undoSpan(1, 0), 2);
        dueSung("6 the other one stands", x, 0);
        Check.due("6 both are dropped", x.undoSpan(1, 0), 1);
        dueSung("6 the one that overlaps stands", x, 0, 1, 2);
    }

    private static void cutsFourAndNoMore() {
        TitleCaller x = new TitleCaller();
        for (int number = 0; number < 4; number++) {
            Check.due("6 cut " + number, x.cut(5, 5), number);
        }
        Check.due("6 a fifth", x.cut(6, 6), TOO_MANY);
        Check.due("6 bar 6 is not cut", x.ofBar(6, 5), 0);
        x.undoSpan(1, 3);
        Check.due("6 room for one", x.cut(6, 6), 3);
        Check.due("6 bar 6 is cut", x.ofBar(6, 5), 1);
    }

    private static void cutWhereverBarsCome() {
        int[][] cuts = {{1, 1}, {3, 3}, {2, 2}, {1, 3}, {0, 1}, {3, 4}};
        int[][] left = {{0, 2, 3, 2, 3, 4}, {0, 1, 2, 1, 2, 4}, {0, 1, 3, 1, 3, 4}, {0, 4}, {2, 3, 2, 3, 4}, {0, 1, 2, 1, 2}};
        for (int row = 0; row < cuts.length; row++) {
            TitleCaller x = new TitleCaller();
            x.bars(5);
            x.cut(cuts[row][0], cuts[row][1]);
            x.repeat(1, 3);
            dueSung("6 cut " + row + " in a repeat", x, left[row]);
        }
    }

    private static void cutOfAll() {
        TitleCaller x = new TitleCaller();
        for (int kind = 0; kind < 3; kind++) {
            x.title(kind, 0, 1, 1);
        }
        x.repeat(0, 31);
        x.cut(0, 15);
        x.cut(16, 31);
        dueSung("6 nothing is sung", x);
        Check.due("6 the night takes 0", x.count(7), 0);
        Check.due("6 no title comes", x.count(8), 0);
        Check.due("6 none shows", x.count(9), 0);
        Check.due("6 for no tenth", x.count(12), 0);
        Check.due("6 at(0)", x.at(0), NONE);
        Check.due("6 a title that does not come: showings", x.ofTitle(0, 4), 0);
        Check.due("6 a title that does not come: tenths", x.ofTitle(0, 6), 0);
        Check.due("6 how often a bar is sung", x.ofBar(0, 3), 0);
        Check.due("6 the first place of a bar", x.ofBar(0, 4), NONE);
        Check.due("6 the slowest tempo", x.slowest(0), 20);
        Check.due("6 one more cut of nothing", x.cutIf(0, 31, 0), 0);
        Check.due("6 one more cut of no title", x.cutIf(0, 31, 1), 0);
        x.blackout(0, 199);
        Check.due("6 a blackout of nothing", x.count(10), 0);
        x.undoSpan(1, 1);
        Check.due("6 it goes on with bar 16", x.sung(0, 0), 16);
    }

    private static void blackoutsFromPlaceToPlace() {
        TitleCaller x = new TitleCaller();
        Check.due("7 ahead of the first place", x.blackout(-1, 3), BAD_VALUE);
        Check.due("7 last below first", x.blackout(3, 2), BAD_VALUE);
        Check.due("7 behind place 199", x.blackout(3, 200), BAD_VALUE);
        Check.due("7 all behind place 199", x.blackout(200, 200), BAD_VALUE);
        Check.due("7 from a place to the same", x.blackout(3, 3), 0);
        Check.due("7 the place ahead", x.sung(2, 2), 0);
        Check.due("7 the place", x.sung(3, 2), 1);
        Check.due("7 the place behind", x.sung(4, 2), 0);
        Check.due("7 all places", x.blackout(0, 199), 1);
        Check.due("7 the first place", x.sung(0, 2), 1);
        Check.due("7 the last place", x.sung(31, 2), 1);
        Check.due("7 the last place of all", x.blackout(199, 199), 2);
    }

    private static void blackoutOfAPlaceThatIsNotThereNow() {
        TitleCaller x = new TitleCaller();
        x.bars(1);
        x.title(TitleCaller.EACH, 0, 1, 1);
        Check.due("7 not there now", x.blackout(1, 1), 0);
        Check.due("7 nothing is dropped", x.count(10), 0);
        x.repeat(0, 0);
        Check.due("7 there now", x.sung(1, 2), 1);
        Check.due("7 the second showing is dropped", x.showing(1, 4), 1);
        x.undoSpan(0, 0);
        Check.due("7 not there again", x.count(10), 0);
    }

    private static void blackoutsThreeAndNoMore() {
        TitleCaller x = new TitleCaller();
        for (int number = 0; number < 3; number++) {
            Check.due("7 blackout " + number, x.blackout(1, 1), number);
        }
        Check.due("7 a fourth", x.blackout(2, 2), TOO_MANY);
        Check.due("7 place 2", x.sung(2, 2), 0);
        x.undoSpan(2, 0);
        Check.due("7 room for one", x.blackout(2, 2), 2);
        Check.due("7 for one alone", x.blackout(2, 2), TOO_MANY);
    }

    private static void spansMoveUp() {
        TitleCaller x = new TitleCaller();
        x.bars(8);
        x.repeat(0, 0);
        x.repeat(2, 2);
        x.repeat(4, 4);
        Check.due("8 the one in the middle", x.undoSpan(0, 1), 2);
        dueSung("8 the others stand", x, 0, 0, 1, 2, 3, 4, 4, 5, 6, 7);
        Check.due("8 what was the last is not there", x.undoSpan(0, 2), NO_SUCH);
        Check.due("8 it moved up", x.undoSpan(0, 1), 1);
        dueSung("8 the first one stands", x, 0, 0, 1, 2, 3, 4, 5, 6, 7);
        Check.due("8 the number of a new one", x.repeat(6, 6), 1);
        x.blackout(0, 0);
        x.blackout(1, 1);
        x.blackout(2, 2);
        Check.due("8 the last blackout", x.undoSpan(2, 2), 2);
        Check.due("8 the first blackout", x.undoSpan(2, 0), 1);
        Check.due("8 place 0", x.sung(0, 2), 0);
        Check.due("8 place 1", x.sung(1, 2), 1);
        Check.due("8 place 2", x.sung(2, 2), 0);
    }

    private static void spansUntilNoneIsLeft() {
        for (int what = 0; what < 3; what++) {
            TitleCaller x = new TitleCaller();
            x.repeat(3, 3);
            x.cut(3, 3);
            x.blackout(3, 3);
            Check.due("8 ahead of the first", x.undoSpan(what, -1), NO_SUCH);
            Check.due("8 behind the last", x.undoSpan(what, 1), NO_SUCH);
            Check.due("8 the only one", x.undoSpan(what, 0), 0);
            Check.due("8 no more", x.undoSpan(what, 0), NO_SUCH);
            for (int sort = 0; sort < 3; sort++) {
                Check.due("8 of sort " + sort, x.count(1 + sort), sort == what ? 0 : 1);
            }
        }
        Check.due("8 what is below", new TitleCaller().undoSpan(-1, -1), BAD_VALUE);
        Check.due("8 what is above", new TitleCaller().undoSpan(3, -1), BAD_VALUE);
    }
}
