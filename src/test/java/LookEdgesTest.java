/** The edges of promises 11 to 18: a test for each sentence that names one. */
public final class LookEdgesTest {
    private static final int NO_SUCH = TitleCaller.NO_SUCH, BAD_VALUE = TitleCaller.BAD_VALUE, TOO_MANY = TitleCaller.TOO_MANY,
            NONE = TitleCaller.NONE;
    private static final int LINE = TitleCaller.LINE, EACH = TitleCaller.EACH, NOTE = TitleCaller.NOTE;
    private static final int HIGHEST = Integer.MAX_VALUE;

    public static void main(String[] args) {
        barsThereAre();
        howOftenABarIsSung();
        whetherABarIsCut();
        placesThereAre();
        placesOfBlackouts();
        titlesThereAre();
        tenthsOfATitle();
        showingsThereAre();
        showingThatDoesNotShow();
        lettersForTenTenths();
        timesOfAShowing();
        timesBetweenShowings();
        timesOfNothing();
        countsOfNothing();
        countsOfTheMost();
        countsOfReasons();
        cutIfOfBars();
        cutIfTellsWhatTheCutDoes();
        cutIfWithThreeAndFourCuts();
        cutIfOfTheLastTitle();
        cutIfOfOneOfTwoShowings();
        cutIfOfATitleThatDoesNotShowNow();
        cutIfMovesTheOnesBehind();
        slowestAtItsEnds();
        slowestJustInTime();
        slowestIsRoundedBarByBar();
        slowestOfWhatIsSung();
        Check.finish("LookEdgesTest");
    }

    private static void barsThereAre() {
        for (int bars : new int[] {1, 32, 60}) {
            TitleCaller x = new TitleCaller();
            x.bars(bars);
            for (int what = 0; what < 6; what++) {
                Check.due("11 ahead of the first bar", x.ofBar(-1, what), NO_SUCH);
                Check.holds("11 the first bar", x.ofBar(0, what) >= 0);
                Check.holds("11 the last bar", x.ofBar(bars - 1, what) >= 0);
                Check.due("11 behind the last bar", x.ofBar(bars, what), NO_SUCH);
            }
            Check.due("11 what -1", x.ofBar(bars - 1, -1), BAD_VALUE);
            Check.due("11 what 6", x.ofBar(bars - 1, 6), BAD_VALUE);
            Check.due("11 what 6 behind the last bar", x.ofBar(bars, 6), NO_SUCH);
        }
    }

    private static void howOftenABarIsSung() {
        TitleCaller x = new TitleCaller();
        x.bars(4);
        x.repeat(0, 1);
        x.repeat(3, 3);
        x.cut(1, 1);
        // Places: 0 0 2 3 3.
        int[] often = {2, 0, 1, 2};
        int[] first = {0, NONE, 2, 3};
        for (int bar = 0; bar < 4; bar++) {
            Check.due("11 how often " + bar, x.ofBar(bar, 3), often[bar]);
            Check.due("11 first place of " + bar, x.ofBar(bar, 4), first[bar]);
        }
    }

    private static void whetherABarIsCut() {
        TitleCaller x = new TitleCaller();
        x.cut(0, 0);
        x.cut(5, 7);
        x.cut(31, 31);
        int[] cut = {0, 5, 6, 7, 31};
        int[] notCut = {1, 4, 8, 30};
        for (int bar : cut) {
            Check.due("11 cut: " + bar, x.ofBar(bar, 5), 1);
            Check.due("11 its beats are told: " + bar, x.ofBar(bar, 0), 4);
            Check.due("11 its tenths are told: " + bar, x.ofBar(bar, 2), 40);
        }
        for (int bar : notCut) {
            Check.due("11 not cut: " + bar, x.ofBar(bar, 5), 0);
        }
    }

    private static void placesThereAre() {
        TitleCaller x = new TitleCaller();
        x.bars(60);
        x.bar(59, 12, 20);
        x.repeat(0, 59);
        Check.due("12 ahead of the first place", x.sung(-1, 0), NO_SUCH);
        Check.due("12 the first place begins at 0", x.sung(0, 1), 0);
        Check.due("12 the last bar", x.sung(59, 0), 59);
        Check.due("12 it begins", x.sung(59, 1), 2360);
        Check.due("12 the first bar once more", x.sung(60, 0), 0);
        Check.due("12 it begins when the last one ends", x.sung(60, 1), 2720);
        Check.due("12 the last place", x.sung(119, 0), 59);
        Check.due("12 it begins at", x.sung(119, 1), 5080);
        Check.due("12 the night ends when it ends", x.count(7), 5440);
        Check.due("12 behind the last place", x.sung(120, 0), NO_SUCH);
        Check.due("12 what -1", x.sung(119, -1), BAD_VALUE);
        Check.due("12 what 3", x.sung(119, 3), BAD_VALUE);
        Check.due("12 what 3 behind the last place", x.sung(120, 3), NO_SUCH);
        x.cut(0, 58);
        Check.due("12 what is left: twice the last bar", x.sung(1, 1), 360);
        Check.due("12 no third place", x.sung(2, 1), NO_SUCH);
        x.cut(59, 59);
        Check.due("12 no place at all", x.sung(0, 0), NO_SUCH);
        Check.due("12 no place at all, what 3", x.sung(0, 3), NO_SUCH);
    }

    private static void placesOfBlackouts() {
        TitleCaller x = new TitleCaller();
        x.bars(6);
        x.blackout(0, 0);
        x.blackout(2, 3);
        x.blackout(5, 199);
        int[] black = {1, 0, 1, 1, 0, 1};
        for (int place = 0; place < 6; place++) {
            Check.due("12 blackout at " + place, x.sung(place, 2), black[place]);
        }
        Check.due("12 of a place that is not there", x.sung(6, 2), NO_SUCH);
        x.cut(0, 2);
        int[] blackThen = {1, 0, 1};
        for (int place = 0; place < 3; place++) {
            Check.due("12 it is tied to places, not to bars: " + place, x.sung(place, 2), blackThen[place]);
        }
    }

    private static void titlesThereAre() {
        TitleCaller x = new TitleCaller();
        Check.due("13 none", x.ofTitle(0, 0), NO_SUCH);
        for (int number = 0; number < 20; number++) {
            x.title(LINE, number, 1, 1);
            Check.due("13 the last one", x.ofTitle(number, 1), number);
            Check.due("13 none behind it", x.ofTitle(number + 1, 1), NO_SUCH);
        }
        Check.due("13 none ahead of the first", x.ofTitle(-1, 0), NO_SUCH);
        Check.due("13 what -1", x.ofTitle(19, -1), BAD_VALUE);
        Check.due("13 what 7", x.ofTitle(19, 7), BAD_VALUE);
        Check.due("13 what 7 of none", x.ofTitle(20, 7), NO_SUCH);
    }

    private static void tenthsOfATitle() {
        TitleCaller x = new TitleCaller();
        x.bars(6);
        x.repeat(2, 3);
        x.title(EACH, 3, 2, 1);
        Check.due("13 both showings, all together", x.ofTitle(0, 6), 160);
        x.blackout(3, 3);
        Check.due("13 two showings still", x.ofTitle(0, 4), 2);
        Check.due("13 one of them shows", x.ofTitle(0, 5), 1);
        Check.due("13 the other one alone", x.ofTitle(0, 6), 80);
        x.blackout(5, 5);
        Check.due("13 none of them shows", x.ofTitle(0, 5), 0);
        Check.due("13 for no tenth", x.ofTitle(0, 6), 0);
        Check.due("13 two showings all the same", x.ofTitle(0, 4), 2);
    }

    private static void showingsThereAre() {
        TitleCaller x = new TitleCaller();
        Check.due("14 none", x.showing(0, 0), NO_SUCH);
        x.title(EACH, 31, 1, 1);
        Check.due("14 the first one", x.showing(0, 0), 0);
        Check.due("14 none behind it", x.showing(1, 0), NO_SUCH);
        Check.due("14 none ahead of it", x.showing(-1, 0), NO_SUCH);
        Check.due("14 what -1", x.showing(0, -1), BAD_VALUE);
        Check.due("14 what 8", x.showing(0, 8), BAD_VALUE);
        Check.due("14 what 8 of none", x.showing(1, 8), NO_SUCH);
        x.repeat(0, 31);
        for (int number = 1; number < 20; number++) {
            x.title(EACH, 31, 1, 1);
        }
        Check.due("14 the last one of all", x.showing(39, 0), 19);
        Check.due("14 none behind it", x.showing(40, 0), NO_SUCH);
    }

    private static void showingThatDoesNotShow() {
        TitleCaller x = new TitleCaller();
        x.title(LINE, 1, 1, 80);
        x.shortest(50);
        int[] tooShort = {0, 1, 35, 80, 2, NONE, NONE, NONE, BAD_VALUE};
        for (int what = 0; what < tooShort.length; what++) {
            Check.due("14 too short, " + what, x.showing(0, what), tooShort[what]);
        }
        x.blackout(0, 0);
        int[] black = {0, 1, 35, 80, 1, NONE, NONE, NONE, BAD_VALUE};
        for (int what = 0; what < black.length; what++) {
            Check.due("14 blackout, " + what, x.showing(0, what), black[what]);
        }
    }

    private static void lettersForTenTenths() {
        // Row: letters, beats and tempo of its bar, its tenths, and the letters for which there are 10 tenths.
        int[][] rows = {{80, 1, 240, 2, 400}, {1, 1, 240, 2, 5}, {80, 12, 20, 360, 2}, {36, 12, 20, 360, 1}, {35, 12, 20, 360, 0},
            {1, 12, 20, 360, 0}, {40, 4, 60, 40, 10}, {39, 4, 60, 40, 9}, {43, 4, 60, 40, 10}, {44, 4, 60, 40, 11}};
        for (int[] row : rows) {
            TitleCaller x = new TitleCaller();
            x.shortest(0);
            Check.due("14 tenths", x.bar(3, row[1], row[2]), row[3]);
            x.title(EACH, 3, 1, row[0]);
            Check.due("14 letters " + row[0] + " in " + row[3], x.showing(0, 7), row[4]);
        }
        TitleCaller x = new TitleCaller();
        x.shortest(0);
        x.title(EACH, 3, 1, 1);
        x.title(EACH, 3, 1, 1);
        Check.due("14 one letter in no tenth", x.showing(0, 7), 999);
        Check.due("14 its end is its beginning", x.showing(0, 6) - x.showing(0, 5), 0);
    }

    private static void timesOfAShowing() {
        TitleCaller x = new TitleCaller();
        x.title(LINE, 1, 1, 1);
        x.title(NOTE, 31, 1, 1);
        Check.due("15 below 0", x.at(-1), BAD_VALUE);
        Check.due("15 the lowest", x.at(Integer.MIN_VALUE), BAD_VALUE);
        Check.due("15 at 0", x.at(0), NONE);
        Check.due("15 just ahead of its beginning", x.at(34), NONE);
        Check.due("15 at its beginning", x.at(35), 0);
        Check.due("15 just ahead of its end", x.at(79), 0);
        Check.due("15 at its end", x.at(80), NONE);
        Check.due("15 just ahead of the end of the night", x.at(1279), 1);
        Check.due("15 at the end of the night", x.at(1280), NONE);
        Check.due("15 the highest", x.at(HIGHEST), NONE);
        x.title(EACH, 0, 1, 1);
        Check.due("15 one from 0 on", x.at(0), 2);
        Check.due("15 below 0 all the same", x.at(-1), BAD_VALUE);
    }

    private static void timesBetweenShowings() {
        TitleCaller x = new TitleCaller();
        x.title(EACH, 0, 1, 1);
        x.title(EACH, 1, 1, 1);
        x.title(EACH, 3, 1, 1);
        int[][] times = {{39, 0}, {40, 1}, {79, 1}, {80, NONE}, {119, NONE}, {120, 2}};
        for (int[] row : times) {
            Check.due("15 at(" + row[0] + ")", x.at(row[0]), row[1]);
        }
        x.blackout(1, 1);
        Check.due("15 what a blackout drops", x.at(40), NONE);
        x.undoSpan(2, 0);
        x.shortest(41);
        Check.due("15 what is too short", x.at(40), NONE);
    }

    private static void timesOfNothing() {
        TitleCaller x = new TitleCaller();
        x.title(EACH, 0, 20, 80);
        x.cut(0, 31);
        for (int time : new int[] {0, 1, 1279, HIGHEST}) {
            Check.due("15 nothing is sung: at(" + time + ")", x.at(time), NONE);
        }
        Check.due("15 nothing is sung: at(-1)", x.at(-1), BAD_VALUE);
    }

    private static void countsOfNothing() {
        TitleCaller x = new TitleCaller();
        x.bars(1);
        x.shortest(0);
        x.cut(0, 0);
        int[] counts = {1, 0, 1, 0, 0, 0, 0, 0, 0, 0, 0, 0, 0, 0, 3};
        for (int what = 0; what < counts.length; what++) {
            Check.due("16 nothing: count(" + what + ")", x.count(what), counts[what]);
        }
        Check.due("16 below 0", x.count(-1), BAD_VALUE);
        Check.due("16 above 14", x.count(15), BAD_VALUE);
    }

    private static void countsOfTheMost() {
        TitleCaller x = new TitleCaller();
        x.bars(60);
        x.shortest(50);
        for (int bar = 0; bar < 60; bar++) {
            x.bar(bar, 12, 20);
        }
        for (int number = 0; number < 4; number++) {
            x.repeat(15 * number, 15 * number + 14);
            x.cut(58, 58);
            x.blackout(199, 199);
        }
        for (int number = 0; number < 20; number++) {
            x.title(EACH, number, 1, 80);
        }
        Check.write(x, "-0;-0;-0;-0;-0;-0;-0;-0;-0;-0;-0;-0;-0;-0;-0;-0;-0;-0;-0;-0;-0;-0;-0;-0;-0;-0;-0");
        int[] counts = {60, 4, 4, 3, 20, 50, 118, 118 * 360, 40, 40, 0, 0, 40 * 360, 80, 6};
        for (int what = 0; what < counts.length; what++) {
            Check.due("16 the most: count(" + what + ")", x.count(what), counts[what]);
        }
        for (int title = 0; title < 20; title++) {
            Check.due("13 the most: tenths of " + title, x.ofTitle(title, 6), 720);
        }
        Check.due("18 the most: the lowest tempo", x.slowest(118 * 360), 20);
        Check.due("18 the most: the next one", x.slowest(118 * 360 - 1), 21);
        Check.due("18 the most: the highest one", x.slowest(118 * 30), 233);
        Check.due("18 the most: none", x.slowest(118 * 30 - 1), NONE);
    }

    private static void countsOfReasons() {
        TitleCaller x = new TitleCaller();
        x.title(LINE, 0, 3, 1);
        x.title(LINE, 0, 3, 1);
        x.title(LINE, 0, 4, 1);
        x.title(EACH, 5, 1, 1);
        x.title(EACH, 6, 1, 1);
        x.blackout(6, 6);
        Check.due("16 showings", x.count(8), 5);
        Check.due("16 show", x.count(9), 3);
        Check.due("16 dropped by a blackout", x.count(10), 1);
        Check.due("16 dropped as too short", x.count(11), 1);
        Check.due("16 something shows", x.count(12), 200);
        x.shortest(0);
        Check.due("16 shows for no tenth", x.count(9), 4);
        Check.due("16 something shows as long as before", x.count(12), 200);
        x.blackout(0, 199);
        Check.due("16 all dropped by a blackout", x.count(10), 5);
        Check.due("16 nothing shows", x.count(12), 0);
    }

    private static void cutIfOfBars() {
        for (int what = 0; what < 2; what++) {
            TitleCaller x = new TitleCaller();
            Check.due("17 ahead of the first bar", x.cutIf(-1, 5, what), NO_SUCH);
            Check.due("17 behind the last bar", x.cutIf(5, 32, what), NO_SUCH);
            Check.due("17 both", x.cutIf(32, -1, what), NO_SUCH);
            Check.due("17 last below first", x.cutIf(1, 0, what), BAD_VALUE);
            Check.due("17 the first bar", x.cutIf(0, 0, what), what == 0 ? 40 : 0);
            Check.due("17 the last bar", x.cutIf(31, 31, what), what == 0 ? 40 : 0);
            Check.due("17 all bars", x.cutIf(0, 31, what), what == 0 ? 1280 : 0);
            Check.due("17 is no change", x.count(14), 0);
            Check.due("17 nothing is cut", x.count(2), 0);
        }
        Check.due("17 what -1", new TitleCaller().cutIf(0, 0, -1), BAD_VALUE);
        Check.due("17 what 2", new TitleCaller().cutIf(0, 0, 2), BAD_VALUE);
        Check.due("17 what 2 of no bar", new TitleCaller().cutIf(0, 32, 2), NO_SUCH);
    }

    private static void cutIfTellsWhatTheCutDoes() {
        for (int first = 0; first < 8; first++) {
            for (int last = first; last < 8; last++) {
                TitleCaller x = new TitleCaller();
                x.bars(8);
                x.bar(3, 7, 90);
                x.repeat(2, 4);
                x.cut(5, 5);
                x.blackout(4, 5);
                for (int number = 0; number < 12; number++) {
                    x.title(number % 3, number * 5 % 8, 1 + number % 5, 1 + number);
                }
                int shorter = x.cutIf(first, last, 0);
                int lost = x.cutIf(first, last, 1);
                int end = x.count(7);
                int shown = shownBy(x);
                x.cut(first, last);
                Check.due("17 shorter by " + first + " to " + last, shorter, end - x.count(7));
                Check.due("17 lost by " + first + " to " + last, lost, shown & ~shownBy(x));
            }
        }
    }

    private static int shownBy(TitleCaller x) {
        int shown = 0;
        for (int title = 0; title < x.count(4); title++) {
            shown |= x.ofTitle(title, 5) > 0 ? 1 << title : 0;
        }
        return shown;
    }

    private static void cutIfWithThreeAndFourCuts() {
        TitleCaller x = new TitleCaller();
        x.cut(0, 0);
        x.cut(0, 0);
        x.cut(0, 0);
        Check.due("17 a fourth cut", x.cutIf(1, 1, 0), 40);
        Check.due("17 of what is cut already", x.cutIf(0, 0, 0), 0);
        x.cut(0, 0);
        Check.due("17 a fifth cut", x.cutIf(1, 1, 0), TOO_MANY);
        Check.due("17 a fifth cut of titles", x.cutIf(1, 1, 1), TOO_MANY);
        Check.due("17 what 2 of a fifth cut", x.cutIf(1, 1, 2), BAD_VALUE);
        x.undoSpan(1, 0);
        Check.due("17 a fourth cut again", x.cutIf(1, 1, 0), 40);
    }

    private static void cutIfOfTheLastTitle() {
        TitleCaller x = new TitleCaller();
        for (int number = 0; number < 20; number++) {
            x.title(EACH, number, 1, 1);
        }
        Check.due("17 title 0", x.cutIf(0, 0, 1), 1);
        Check.due("17 title 19", x.cutIf(19, 19, 1), 1 << 19);
        Check.due("17 all titles", x.cutIf(0, 31, 1), (1 << 20) - 1);
        Check.due("17 no title", x.cutIf(20, 31, 1), 0);
    }

    private static void cutIfOfOneOfTwoShowings() {
        TitleCaller x = new TitleCaller();
        x.bars(6);
        x.repeat(1, 1);
        x.title(EACH, 1, 1, 1);
        x.blackout(1, 1);
        Check.due("17 the second showing shows alone", x.ofTitle(0, 5), 1);
        // Places then: 1 1 2 to 5; the first showing shows, and the second one is blacked out.
        Check.due("17 the first one would show instead", x.cutIf(0, 0, 1), 0);
        x.blackout(0, 0);
        Check.due("17 neither would", x.cutIf(0, 0, 1), 1);
    }

    private static void cutIfOfATitleThatDoesNotShowNow() {
        TitleCaller x = new TitleCaller();
        x.title(LINE, 3, 1, 1);
        x.title(LINE, 3, 1, 1);
        Check.due("17 the second one is too short now", x.showing(1, 4), 2);
        Check.due("17 it cannot be lost", x.cutIf(3, 3, 1), 1);
        x.blackout(0, 31);
        Check.due("17 nor what a blackout drops", x.cutIf(3, 3, 1), 0);
    }

    private static void cutIfMovesTheOnesBehind() {
        TitleCaller x = new TitleCaller();
        x.title(LINE, 0, 2, 1);
        x.title(LINE, 3, 1, 1);
        x.title(EACH, 31, 1, 1);
        // Without bars 1 and 2 the first one would last until 80, and the second one, due until then, would have to wait.
        Check.due("17 the one that has to wait", x.cutIf(1, 2, 1), 2);
        Check.due("17 one bar alone", x.cutIf(1, 1, 1), 0);
        x.blackout(30, 30);
        Check.due("17 the one that comes into a blackout", x.cutIf(7, 7, 1), 4);
    }

    private static void slowestAtItsEnds() {
        TitleCaller x = new TitleCaller();
        Check.due("18 below 0", x.slowest(-1), BAD_VALUE);
        Check.due("18 the lowest", x.slowest(Integer.MIN_VALUE), BAD_VALUE);
        Check.due("18 no time", x.slowest(0), NONE);
        Check.due("18 all the time there is", x.slowest(HIGHEST), 20);
        Check.due("18 the lowest tempo, just in time", x.slowest(32 * 120), 20);
        Check.due("18 one tenth less", x.slowest(32 * 120 - 1), 21);
        Check.due("18 the highest tempo, just in time", x.slowest(32 * 10), 219);
        Check.due("18 one tenth less than that", x.slowest(32 * 10 - 1), NONE);
        x.bars(1);
        x.bar(0, 11, 60);
        Check.due("18 the highest tempo that can be told", x.slowest(27), 236);
        Check.due("18 none", x.slowest(26), NONE);
        Check.due("18 nothing changed", x.ofBar(0, 1), 60);
    }

    private static void slowestJustInTime() {
        TitleCaller x = new TitleCaller();
        x.bars(7);
        for (int bar = 0; bar < 7; bar++) {
            x.bar(bar, 1 + bar, 20 + 30 * bar);
        }
        x.repeat(3, 5);
        x.cut(4, 4);
        for (int time = 0; time <= 900; time++) {
            Check.due("18 slowest(" + time + ")", x.slowest(time), slowestOf(time, 1, 2, 3, 4, 6, 4, 6, 7));
        }
    }

    private static int slowestOf(int time, int... beats) {
        for (int tempo = 20; tempo <= 240; tempo++) {
            int end = 0;
            for (int beat : beats) {
                end += 600 * beat / tempo;
            }
            if (end <= time) {
                return tempo;
            }
        }
        return NONE;
    }

    private static void slowestIsRoundedBarByBar() {
        TitleCaller x = new TitleCaller();
        x.bars(3);
        for (int bar = 0; bar < 3; bar++) {
            x.bar(bar, 1, 20);
        }
        // 600 / 201 is 2 and something: all three take 6 from there on, though 1800 / 201 is 8.
        Check.due("18 three bars in 6", x.slowest(6), 201);
        Check.due("18 three bars in 8", x.slowest(8), 201);
        Check.due("18 three bars in 9", x.slowest(9), 151);
        Check.due("18 three bars in 5", x.slowest(5), NONE);
    }

    private static void slowestOfWhatIsSung() {
        TitleCaller x = new TitleCaller();
        x.cut(1, 31);
        Check.due("18 one bar", x.slowest(120), 20);
        x.repeat(0, 31);
        Check.due("18 twice", x.slowest(120), 40);
        x.cut(0, 0);
        Check.due("18 nothing", x.slowest(0), 20);
        Check.due("18 nothing, below 0", x.slowest(-1), BAD_VALUE);
    }
}
