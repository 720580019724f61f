/** The edges of promises 9 and 10 and of the terms of titles: a test for each sentence that names one. */
public final class TitleEdgesTest {
    private static final int NO_SUCH = TitleCaller.NO_SUCH, BAD_VALUE = TitleCaller.BAD_VALUE, TOO_MANY = TitleCaller.TOO_MANY,
            NONE = TitleCaller.NONE;
    private static final int LINE = TitleCaller.LINE, EACH = TitleCaller.EACH, NOTE = TitleCaller.NOTE;

    public static void main(String[] args) {
        titleOfEachKind();
        titleBarsAndLetters();
        titleAtABar();
        twentyTitlesAndNoMore();
        dropOfTheFirstTheLastAndOneBetween();
        dropUntilNoneIsLeft();
        kindsWithOnePlaceAndWithTwo();
        barThatIsNotSung();
        leadIsNotAheadOfZero();
        leadOfABarThatComesFirstByACut();
        dueUntilAPlaceOrTheEnd();
        dueUntilAPlaceNotABar();
        orderOfPlacesThenOfNumbers();
        waitsIfTheOneAheadEndsLater();
        waitsForTheOneThatShowsAlone();
        eachEndsTheOneAhead();
        eachWhenTheOneAheadHasEnded();
        eachWhenTheOneAheadBegins();
        eachAheadOfTheBeginningOfTheOneAhead();
        eachEndsOneAlone();
        atLeastShort();
        notBehindItsBeginning();
        shortAsItIsLookedAt();
        tooShortToEnd();
        tooShortToWaitFor();
        blackoutBeginsWithItsFirstPlace();
        blackoutEndsWithItsLastPlace();
        blackoutUntilTheEndOfTheNight();
        blackoutFromTheFirstPlaceOn();
        blackoutFirstOfAll();
        dueAheadOfABlackout();
        dueInABlackoutThoughItWouldWait();
        blackedOutChangesNothing();
        Check.finish("TitleEdgesTest");
    }

    /** Row: title, place, from, until, reason, begin, end. */
    private static void dueShowings(String what, TitleCaller x, int[][] rows) {
        Check.due(what + ": showings", x.count(8), rows.length);
        for (int showing = 0; showing < rows.length; showing++) {
            for (int about = 0; about < 7; about++) {
                Check.due(what + ": showing(" + showing + ", " + about + ")", x.showing(showing, about), rows[showing][about]);
            }
        }
        Check.due(what + ": no showing behind", x.showing(rows.length, 0), NO_SUCH);
    }

    private static void titleOfEachKind() {
        TitleCaller x = new TitleCaller();
        Check.due("9 below LINE", x.title(-1, 0, 1, 1), BAD_VALUE);
        Check.due("9 LINE", x.title(0, 0, 1, 1), 0);
        Check.due("9 EACH", x.title(1, 0, 1, 1), 1);
        Check.due("9 NOTE", x.title(2, 0, 1, 1), 2);
        Check.due("9 above NOTE", x.title(3, 0, 1, 1), BAD_VALUE);
        for (int title = 0; title < 3; title++) {
            Check.due("9 its kind", x.ofTitle(title, 0), title);
        }
    }

    private static void titleBarsAndLetters() {
        for (int kind = 0; kind < 3; kind++) {
            TitleCaller x = new TitleCaller();
            Check.due("9 for no bar", x.title(kind, 31, 0, 1), BAD_VALUE);
            Check.due("9 for 21 bars", x.title(kind, 31, 21, 1), BAD_VALUE);
            Check.due("9 no letter", x.title(kind, 31, 1, 0), BAD_VALUE);
            Check.due("9 81 letters", x.title(kind, 31, 1, 81), BAD_VALUE);
            Check.due("9 one bar, one letter", x.title(kind, 31, 1, 1), 0);
            Check.due("9 one bar, 80 letters", x.title(kind, 31, 1, 80), 1);
            Check.due("9 20 bars, one letter", x.title(kind, 31, 20, 1), 2);
            Check.due("9 20 bars, 80 letters", x.title(kind, 31, 20, 80), 3);
            Check.due("9 its bars", x.ofTitle(3, 2), 20);
            Check.due("9 its letters", x.ofTitle(3, 3), 80);
        }
    }

    private static void titleAtABar() {
        TitleCaller x = new TitleCaller();
        Check.due("9 ahead of the first bar", x.title(0, -1, 1, 1), NO_SUCH);
        Check.due("9 behind the last bar", x.title(0, 32, 1, 1), NO_SUCH);
        Check.due("9 the first bar", x.title(0, 0, 1, 1), 0);
        Check.due("9 the last bar", x.title(0, 31, 1, 1), 1);
        x.bars(60);
        Check.due("9 the last bar of all", x.title(0, 59, 1, 1), 2);
        Check.due("9 no bar behind it", x.title(0, 60, 1, 1), NO_SUCH);
        x.cut(30, 30);
        Check.due("9 a bar that is not sung", x.title(0, 30, 1, 1), 3);
    }

    private static void twentyTitlesAndNoMore() {
        TitleCaller x = new TitleCaller();
        for (int number = 0; number < 20; number++) {
            Check.due("9 title " + number, x.title(EACH, number, 1, 1 + number), number);
        }
        Check.due("9 one more", x.title(EACH, 20, 1, 1), TOO_MANY);
        Check.due("9 there are 20", x.count(4), 20);
        Check.due("9 with a showing each", x.count(8), 20);
        Check.due("9 room for one", x.drop(7), 19);
        Check.due("9 behind the others", x.title(EACH, 20, 1, 77), 19);
        Check.due("9 its letters", x.ofTitle(19, 3), 77);
        Check.due("9 for one alone", x.title(EACH, 20, 1, 1), TOO_MANY);
    }

    private static void dropOfTheFirstTheLastAndOneBetween() {
        int[][] left = {{12, 13, 14, 15}, {11, 13, 14, 15}, {11, 12, 14, 15}, {11, 12, 13, 15}, {11, 12, 13, 14}};
        for (int dropped = 0; dropped < left.length; dropped++) {
            TitleCaller x = new TitleCaller();
            for (int number = 0; number < 5; number++) {
                x.title(number % 3, 30 - number, 1 + number, 11 + number);
            }
            Check.due("10 drop(" + dropped + ")", x.drop(dropped), 4);
            for (int title = 0; title < 4; title++) {
                int number = left[dropped][title] - 11;
                Check.due("10 kind", x.ofTitle(title, 0), number % 3);
                Check.due("10 bar", x.ofTitle(title, 1), 30 - number);
                Check.due("10 bars", x.ofTitle(title, 2), 1 + number);
                Check.due("10 letters", x.ofTitle(title, 3), 11 + number);
            }
            Check.due("10 no fifth", x.ofTitle(4, 0), NO_SUCH);
            Check.due("10 nor to drop", x.drop(4), NO_SUCH);
        }
    }

    private static void dropUntilNoneIsLeft() {
        TitleCaller x = new TitleCaller();
        for (int number = 0; number < 20; number++) {
            x.title(LINE, number, 1, 1);
        }
        for (int left = 19; left >= 0; left--) {
            Check.due("10 ahead of the first", x.drop(-1), NO_SUCH);
            Check.due("10 behind the last", x.drop(left + 1), NO_SUCH);
            Check.due("10 drop", x.drop(left / 2), left);
            Check.due("10 showings", x.count(8), left);
        }
        Check.due("10 none is left", x.drop(0), NO_SUCH);
    }

    private static void kindsWithOnePlaceAndWithTwo() {
        TitleCaller x = new TitleCaller();
        x.shortest(0);
        for (int kind = 0; kind < 3; kind++) {
            x.title(kind, 2, 1, 1);
        }
        for (int kind = 0; kind < 3; kind++) {
            Check.due("kinds: a bar sung once", x.ofTitle(kind, 4), 1);
        }
        x.repeat(1, 2);
        int[] showings = {1, 2, 1};
        for (int kind = 0; kind < 3; kind++) {
            Check.due("kinds: a bar sung twice", x.ofTitle(kind, 4), showings[kind]);
        }
        int[] titles = {0, 1, 1, 2};
        int[] places = {2, 2, 4, 4};
        for (int showing = 0; showing < 4; showing++) {
            Check.due("kinds: title of " + showing, x.showing(showing, 0), titles[showing]);
            Check.due("kinds: place of " + showing, x.showing(showing, 1), places[showing]);
        }
    }

    private static void barThatIsNotSung() {
        TitleCaller x = new TitleCaller();
        x.repeat(4, 6);
        for (int kind = 0; kind < 3; kind++) {
            x.title(kind, 5, 3, 1);
        }
        x.cut(5, 5);
        Check.due("not sung: showings", x.count(8), 0);
        for (int title = 0; title < 3; title++) {
            for (int what = 4; what <= 6; what++) {
                Check.due("not sung: ofTitle(" + title + ", " + what + ")", x.ofTitle(title, what), 0);
            }
        }
        x.undoSpan(1, 0);
        Check.due("sung again: showings", x.count(8), 4);
    }

    private static void leadIsNotAheadOfZero() {
        // Row: kind, tempo of the one beat of bar 0, its tenths, and the time from which a title at bar 1 is due.
        int[][] rows = {{LINE, 150, 4, 0}, {LINE, 120, 5, 0}, {LINE, 100, 6, 1}, {NOTE, 31, 19, 0}, {NOTE, 30, 20, 0},
            {NOTE, 28, 21, 1}, {EACH, 240, 2, 2}, {EACH, 28, 21, 21}};
        for (int[] row : rows) {
            TitleCaller x = new TitleCaller();
            Check.due("lead: tenths", x.bar(0, 1, row[1]), row[2]);
            x.title(row[0], 1, 1, 1);
            Check.due("lead of kind " + row[0] + " behind " + row[2], x.showing(0, 2), row[3]);
            Check.due("lead: begins", x.showing(0, 5), row[3]);
            Check.due("lead: at", x.at(row[3]), 0);
            Check.due("lead: not ahead", x.at(row[3] - 1), row[3] > 0 ? NONE : BAD_VALUE);
        }
    }

    private static void leadOfABarThatComesFirstByACut() {
        for (int kind = 0; kind < 3; kind++) {
            TitleCaller x = new TitleCaller();
            x.title(kind, 7, 1, 1);
            x.cut(0, 6);
            dueShowings("lead of the first place", x, new int[][] {{0, 0, 0, 40, 0, 0, 40}});
        }
    }

    private static void dueUntilAPlaceOrTheEnd() {
        // Row: bars for which a title at bar 28 of 32 lasts, and the time until which it is due.
        int[][] rows = {{1, 1160}, {2, 1200}, {3, 1240}, {4, 1280}, {5, 1280}, {20, 1280}};
        for (int kind = 0; kind < 3; kind++) {
            for (int[] row : rows) {
                TitleCaller x = new TitleCaller();
                x.title(kind, 28, row[0], 1);
                Check.due("until, " + row[0] + " bars", x.showing(0, 3), row[1]);
                Check.due("ends then", x.showing(0, 6), row[1]);
            }
        }
        TitleCaller x = new TitleCaller();
        x.bars(60);
        x.repeat(0, 59);
        x.title(NOTE, 59, 20, 1);
        x.title(LINE, 59, 20, 1);
        Check.due("until: 20 places on", x.showing(0, 3), 79 * 40);
        Check.due("until: from the last place on", x.showing(1, 3), 120 * 40);
    }

    private static void dueUntilAPlaceNotABar() {
        TitleCaller x = new TitleCaller();
        x.bars(5);
        x.bar(4, 1, 60);
        x.repeat(1, 2);
        x.cut(3, 3);
        // Places: 0 1 2 1 2 4.
        x.title(EACH, 2, 1, 1);
        Check.due("places: behind the first one comes the repeat", x.showing(0, 3), 120);
        Check.due("places: behind the second one comes what is not cut", x.showing(1, 3), 200);
        x.drop(0);
        x.title(EACH, 2, 2, 1);
        Check.due("places: two on", x.showing(0, 3), 160);
        Check.due("places: two on there is none", x.showing(1, 3), 210);
    }

    private static void orderOfPlacesThenOfNumbers() {
        TitleCaller x = new TitleCaller();
        x.shortest(0);
        x.title(NOTE, 2, 1, 1);
        x.title(EACH, 1, 1, 1);
        x.title(LINE, 1, 1, 1);
        x.title(EACH, 0, 1, 1);
        x.title(LINE, 2, 1, 1);
        x.title(NOTE, 0, 1, 1);
        int[] titles = {3, 5, 1, 2, 0, 4};
        for (int showing = 0; showing < titles.length; showing++) {
            Check.due("order: showing " + showing, x.showing(showing, 0), titles[showing]);
        }
        x.drop(5);
        x.drop(3);
        int[] left = {1, 2, 0, 3};
        for (int showing = 0; showing < left.length; showing++) {
            Check.due("order of those left: showing " + showing, x.showing(showing, 0), left[showing]);
        }
    }

    private static void waitsIfTheOneAheadEndsLater() {
        // Row: kind, tempo of the one beat of bar 1, due from, begins. The one ahead ends at 40.
        int[][] rows = {{LINE, 150, 39, 40}, {LINE, 120, 40, 40}, {LINE, 100, 41, 41}, {NOTE, 31, 39, 40}, {NOTE, 30, 40, 40},
            {NOTE, 28, 41, 41}};
        for (int[] row : rows) {
            TitleCaller x = new TitleCaller();
            x.bar(1, 1, row[1]);
            x.title(LINE, 0, 1, 1);
            x.title(row[0], 2, 1, 1);
            Check.due("waits: due from", x.showing(1, 2), row[2]);
            Check.due("waits: begins", x.showing(1, 5), row[3]);
            Check.due("waits: the one ahead ends", x.showing(0, 6), 40);
            Check.due("waits: at its beginning", x.at(row[3]), 1);
            Check.due("waits: just ahead of it", x.at(row[3] - 1), row[3] == 41 ? NONE : 0);
        }
    }

    private static void waitsForTheOneThatShowsAlone() {
        TitleCaller x = new TitleCaller();
        x.title(LINE, 0, 2, 1);
        x.title(LINE, 0, 1, 1);
        x.title(NOTE, 1, 3, 1);
        x.blackout(3, 3);
        x.title(EACH, 3, 20, 1);
        x.title(LINE, 4, 2, 1);
        x.title(LINE, 5, 2, 1);
        dueShowings("waits for", x, new int[][] {{0, 0, 0, 80, 0, 0, 80}, {1, 0, 0, 40, 2, NONE, NONE}, {2, 1, 20, 160, 0, 80, 160},
            {3, 3, 120, 920, 1, NONE, NONE}, {4, 4, 155, 240, 1, NONE, NONE}, {5, 5, 195, 280, 0, 195, 280}});
    }

    private static void eachEndsTheOneAhead() {
        TitleCaller x = new TitleCaller();
        x.title(LINE, 1, 2, 80);
        x.title(EACH, 1, 1, 1);
        dueShowings("ends it", x, new int[][] {{0, 1, 35, 120, 0, 35, 40}, {1, 1, 40, 80, 0, 40, 80}});
        Check.due("ends it: just ahead", x.at(39), 0);
        Check.due("ends it: then", x.at(40), 1);
        Check.due("ends it: it does not come again", x.at(80), NONE);
        Check.due("ends it: letters for 10 tenths", x.showing(0, 7), 160);
    }

    private static void eachWhenTheOneAheadHasEnded() {
        TitleCaller x = new TitleCaller();
        x.title(LINE, 0, 1, 1);
        x.title(EACH, 1, 1, 1);
        x.title(EACH, 3, 1, 1);
        dueShowings("has ended", x, new int[][] {{0, 0, 0, 40, 0, 0, 40}, {1, 1, 40, 80, 0, 40, 80}, {2, 3, 120, 160, 0, 120, 160}});
    }

    private static void eachWhenTheOneAheadBegins() {
        TitleCaller x = new TitleCaller();
        x.title(EACH, 1, 2, 80);
        x.title(EACH, 1, 1, 1);
        dueShowings("begins then", x, new int[][] {{0, 1, 40, 120, 0, 40, 40}, {1, 1, 40, 80, 0, 40, 80}});
        Check.due("begins then: no tenth to read it", x.showing(0, 7), 999);
        Check.due("begins then: at", x.at(40), 1);
        Check.due("begins then: just ahead", x.at(39), NONE);
        Check.due("begins then: tenths", x.count(12), 40);
    }

    private static void eachAheadOfTheBeginningOfTheOneAhead() {
        TitleCaller x = new TitleCaller();
        x.title(EACH, 0, 5, 1);
        x.title(NOTE, 1, 6, 1);
        x.title(EACH, 2, 4, 1);
        dueShowings("not ahead", x, new int[][] {{0, 0, 0, 200, 0, 0, 200}, {1, 1, 20, 280, 0, 200, 200}, {2, 2, 80, 240, 0, 200, 240}});
        x.drop(2);
        x.title(EACH, 5, 4, 1);
        dueShowings("when it begins", x, new int[][] {{0, 0, 0, 200, 0, 0, 200}, {1, 1, 20, 280, 0, 200, 200}, {2, 5, 200, 360, 0, 200, 360}});
        x.drop(2);
        x.title(EACH, 6, 4, 1);
        dueShowings("behind its beginning", x, new int[][] {{0, 0, 0, 200, 0, 0, 200}, {1, 1, 20, 280, 0, 200, 240}, {2, 6, 240, 400, 0, 240, 400}});
    }

    private static void eachEndsOneAlone() {
        TitleCaller x = new TitleCaller();
        x.title(LINE, 0, 3, 1);
        x.title(LINE, 1, 5, 1);
        x.title(EACH, 1, 4, 1);
        // The second one began at 120, the first one shows until then as before.
        dueShowings("one alone", x, new int[][] {{0, 0, 0, 120, 0, 0, 120}, {1, 1, 35, 240, 0, 120, 120}, {2, 1, 40, 200, 0, 120, 200}});
    }

    private static void atLeastShort() {
        // Row: beats of bar 1, its tenths at tempo 60, and SHORT; a title at bar 1 shows for as long.
        int[][] rows = {{1, 10, 9, 0}, {1, 10, 10, 0}, {1, 10, 11, 2}, {5, 50, 50, 0}, {4, 40, 50, 2}, {4, 40, 0, 0}};
        for (int[] row : rows) {
            TitleCaller x = new TitleCaller();
            Check.due("short: tenths", x.bar(1, row[0], 60), row[1]);
            x.title(EACH, 1, 1, 1);
            x.shortest(row[2]);
            Check.due("short: " + row[1] + " for " + row[2], x.showing(0, 4), row[3]);
        }
        TitleCaller x = new TitleCaller();
        x.bar(1, 1, 60);
        x.title(EACH, 1, 1, 1);
        Check.due("short: 10 at first is enough", x.count(9), 1);
        x.bar(1, 1, 61);
        Check.due("short: 9 at first is not", x.count(11), 1);
    }

    private static void notBehindItsBeginning() {
        // Row: bars of the first title; the second one is due until 80.
        for (int bars = 2; bars <= 4; bars++) {
            TitleCaller x = new TitleCaller();
            x.title(LINE, 0, bars, 1);
            x.title(LINE, 1, 1, 80);
            x.title(NOTE, 1, 20, 1);
            x.shortest(1);
            Check.due("0 tenths for 1", x.showing(1, 4), 2);
            Check.due("it does not begin", x.showing(1, 5), NONE);
            x.shortest(0);
            dueShowings("0 tenths for 0", x, new int[][] {{0, 0, 0, 40 * bars, 0, 0, 40 * bars}, {1, 1, 35, 80, 0, 40 * bars, 40 * bars},
                {2, 1, 20, 840, 0, 40 * bars, 840}});
            Check.due("no tenth to read it", x.showing(1, 7), 999);
            Check.due("it shows", x.ofTitle(1, 5), 1);
            Check.due("for no tenth", x.ofTitle(1, 6), 0);
            Check.due("at no time", x.at(40 * bars), 2);
            Check.due("those that show", x.count(9), 3);
        }
    }

    private static void shortAsItIsLookedAt() {
        TitleCaller x = new TitleCaller();
        x.shortest(50);
        x.title(LINE, 1, 2, 1);
        x.title(EACH, 1, 2, 1);
        x.title(EACH, 2, 2, 1);
        dueShowings("as it is looked at", x, new int[][] {{0, 1, 35, 120, 0, 35, 40}, {1, 1, 40, 120, 0, 40, 80}, {2, 2, 80, 160, 0, 80, 160}});
    }

    private static void tooShortToEnd() {
        TitleCaller x = new TitleCaller();
        x.shortest(41);
        x.title(LINE, 0, 4, 1);
        x.title(EACH, 1, 1, 1);
        x.title(EACH, 2, 2, 1);
        dueShowings("too short to end it", x, new int[][] {{0, 0, 0, 160, 0, 0, 80}, {1, 1, 40, 80, 2, NONE, NONE}, {2, 2, 80, 160, 0, 80, 160}});
    }

    private static void tooShortToWaitFor() {
        TitleCaller x = new TitleCaller();
        x.shortest(46);
        x.title(LINE, 1, 1, 1);
        x.title(LINE, 1, 2, 1);
        x.title(LINE, 2, 2, 1);
        dueShowings("too short to wait for", x, new int[][] {{0, 1, 35, 80, 2, NONE, NONE}, {1, 1, 35, 120, 0, 35, 120},
            {2, 2, 75, 160, 2, NONE, NONE}});
        x.shortest(45);
        dueShowings("just long enough", x, new int[][] {{0, 1, 35, 80, 0, 35, 80}, {1, 1, 35, 120, 2, NONE, NONE},
            {2, 2, 75, 160, 0, 80, 160}});
    }

    private static void blackoutBeginsWithItsFirstPlace() {
        // Row: tempo of the one beat of bar 2, which begins at 80, and the time from which a LINE at bar 3 is due.
        int[][] rows = {{150, 79, 0}, {120, 80, 1}, {100, 81, 1}};
        for (int[] row : rows) {
            TitleCaller x = new TitleCaller();
            x.bar(2, 1, row[0]);
            x.title(LINE, 3, 1, 1);
            x.blackout(2, 2);
            Check.due("blackout begins: due from", x.showing(0, 2), row[1]);
            Check.due("blackout begins: reason", x.showing(0, 4), row[2]);
        }
    }

    private static void blackoutEndsWithItsLastPlace() {
        // Row: tempo of the one beat of bar 3, behind the blackout, which ends at 120.
        int[][] rows = {{150, 119, 1}, {120, 120, 0}, {100, 121, 0}};
        for (int[] row : rows) {
            TitleCaller x = new TitleCaller();
            x.bar(3, 1, row[0]);
            x.title(LINE, 4, 1, 1);
            x.blackout(1, 2);
            Check.due("blackout ends: due from", x.showing(0, 2), row[1]);
            Check.due("blackout ends: reason", x.showing(0, 4), row[2]);
        }
    }

    private static void blackoutUntilTheEndOfTheNight() {
        int[][] blackouts = {{31, 31, 1}, {31, 32, 1}, {31, 199, 1}, {0, 199, 1}, {0, 30, 0}, {32, 32, 0}, {32, 199, 0}, {199, 199, 0}};
        for (int[] row : blackouts) {
            TitleCaller x = new TitleCaller();
            x.title(EACH, 31, 1, 1);
            x.blackout(row[0], row[1]);
            Check.due("blackout(" + row[0] + ", " + row[1] + ") of the last place", x.count(10), row[2]);
        }
        for (int first = 118; first <= 121; first++) {
            TitleCaller x = new TitleCaller();
            x.bars(60);
            x.repeat(0, 59);
            x.title(EACH, 59, 1, 1);
            x.blackout(first, 199);
            Check.due("blackout(" + first + ", 199) of the last place of all", x.showing(1, 4), first <= 119 ? 1 : 0);
            Check.due("of the place in the middle", x.showing(0, 4), 0);
        }
    }

    private static void blackoutFromTheFirstPlaceOn() {
        for (int kind = 0; kind < 3; kind++) {
            TitleCaller x = new TitleCaller();
            x.title(kind, 0, 1, 1);
            x.title(kind, 1, 2, 1);
            x.blackout(0, 0);
            Check.due("from 0 on", x.showing(0, 4), 1);
            Check.due("due in it by its lead", x.showing(1, 4), kind == EACH ? 0 : 1);
        }
    }

    private static void blackoutFirstOfAll() {
        TitleCaller x = new TitleCaller();
        x.title(LINE, 0, 5, 1);
        x.title(LINE, 1, 1, 1);
        Check.due("first of all: too short", x.showing(1, 4), 2);
        x.blackout(0, 0);
        Check.due("first of all: a blackout", x.showing(1, 4), 1);
        Check.due("first of all: blackouts", x.count(10), 2);
        Check.due("first of all: too short", x.count(11), 0);
        x.shortest(0);
        Check.due("first of all: not too short either", x.showing(1, 4), 1);
    }

    private static void dueAheadOfABlackout() {
        TitleCaller x = new TitleCaller();
        x.title(LINE, 2, 4, 1);
        x.title(NOTE, 2, 5, 1);
        x.title(EACH, 6, 1, 1);
        x.blackout(2, 5);
        dueShowings("ahead of it", x, new int[][] {{0, 2, 75, 240, 0, 75, 240}, {1, 2, 60, 280, 0, 240, 240}, {2, 6, 240, 280, 0, 240, 280}});
        x.drop(2);
        x.undoSpan(2, 0);
        x.blackout(2, 31);
        dueShowings("begins in it", x, new int[][] {{0, 2, 75, 240, 0, 75, 240}, {1, 2, 60, 280, 0, 240, 280}});
    }

    private static void dueInABlackoutThoughItWouldWait() {
        TitleCaller x = new TitleCaller();
        x.title(LINE, 0, 5, 1);
        x.title(LINE, 2, 10, 1);
        x.blackout(1, 1);
        // It is due from 75, in the blackout, and would begin at 200, behind it.
        dueShowings("would wait", x, new int[][] {{0, 0, 0, 200, 0, 0, 200}, {1, 2, 75, 480, 1, NONE, NONE}});
    }

    private static void blackedOutChangesNothing() {
        TitleCaller x = new TitleCaller();
        x.title(LINE, 0, 5, 1);
        x.title(EACH, 2, 10, 1);
        x.title(LINE, 4, 5, 1);
        x.blackout(2, 2);
        dueShowings("blacked out", x, new int[][] {{0, 0, 0, 200, 0, 0, 200}, {1, 2, 80, 480, 1, NONE, NONE}, {2, 4, 155, 360, 0, 200, 360}});
    }
}
