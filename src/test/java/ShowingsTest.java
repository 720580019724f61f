/** The terms of titles: when they come, wait, are ended, are dropped, and what blackouts do. */
public final class ShowingsTest {
    private static final int LINE = TitleCaller.LINE, EACH = TitleCaller.EACH, NOTE = TitleCaller.NOTE;
    private static final int NONE = TitleCaller.NONE;

    public static void main(String[] args) {
        leadsAndEnds();
        firstEachAndLast();
        orderOfShowings();
        waiting();
        endedByEach();
        endedNotAheadOfItsBeginning();
        tooShortChangesNothing();
        shortestIsEnough();
        noTenths();
        blackoutByTime();
        waitsIntoABlackout();
        blackoutBeyondTheNight();
        blackoutAheadOfTooShort();
        blackoutChangesNothing();
        Check.finish("ShowingsTest");
    }

    /** Row: title, place, from, until, reason, begin, end. */
    private static void dueShowings(String what, TitleCaller x, int[][] rows) {
        Check.due(what + ": showings", x.count(8), rows.length);
        for (int showing = 0; showing < rows.length; showing++) {
            for (int about = 0; about < 7; about++) {
                Check.due(what + ": showing(" + showing + ", " + about + ")", x.showing(showing, about), rows[showing][about]);
            }
        }
    }

    private static void leadsAndEnds() {
        TitleCaller x = new TitleCaller();
        x.title(LINE, 0, 1, 1);
        x.title(NOTE, 1, 2, 1);
        x.title(EACH, 10, 1, 1);
        x.title(LINE, 20, 11, 1);
        x.title(EACH, 31, 1, 1);
        x.title(EACH, 31, 20, 1);
        dueShowings("leads", x, new int[][] {{0, 0, 0, 40, 0, 0, 40}, {1, 1, 20, 120, 0, 40, 120},
            {2, 10, 400, 440, 0, 400, 440}, {3, 20, 795, 1240, 0, 795, 1240}, {4, 31, 1240, 1280, 0, 1240, 1240},
            {5, 31, 1240, 1280, 0, 1240, 1280}});
        x.bar(0, 1, 60);
        Check.due("leads: NOTE not ahead of 0", x.showing(1, 2), 0);
    }

    private static void firstEachAndLast() {
        TitleCaller x = new TitleCaller();
        x.bars(4);
        x.repeat(1, 2);
        x.title(NOTE, 1, 1, 1);
        x.title(EACH, 1, 1, 1);
        x.title(LINE, 1, 1, 1);
        x.title(LINE, 3, 1, 1);
        x.title(NOTE, 0, 1, 1);
        dueShowings("kinds", x, new int[][] {{4, 0, 0, 40, 0, 0, 40}, {1, 1, 40, 80, 0, 40, 80}, {2, 1, 35, 80, 2, NONE, NONE},
            {0, 3, 100, 160, 0, 100, 120}, {1, 3, 120, 160, 0, 120, 160}, {3, 5, 195, 240, 0, 195, 240}});
        x.cut(1, 1);
        dueShowings("kinds, cut", x, new int[][] {{4, 0, 0, 40, 0, 0, 40}, {3, 3, 115, 160, 0, 115, 160}});
    }

    private static void orderOfShowings() {
        TitleCaller x = new TitleCaller();
        x.bar(5, 1, 240);
        x.title(NOTE, 6, 2, 1);
        x.title(EACH, 5, 2, 1);
        x.title(LINE, 5, 1, 1);
        // NOTE is due first, yet comes behind both that come with the place ahead of its own.
        dueShowings("order", x, new int[][] {{1, 5, 200, 242, 0, 200, 242}, {2, 5, 195, 202, 2, NONE, NONE},
            {0, 6, 182, 282, 0, 242, 282}});
    }

    private static void waiting() {
        TitleCaller x = new TitleCaller();
        x.title(LINE, 1, 3, 1);
        x.title(LINE, 2, 3, 1);
        x.title(NOTE, 3, 3, 1);
        x.title(LINE, 6, 1, 1);
        x.title(LINE, 9, 1, 1);
        dueShowings("waiting", x, new int[][] {{0, 1, 35, 160, 0, 35, 160}, {1, 2, 75, 200, 0, 160, 200},
            {2, 3, 100, 240, 0, 200, 240}, {3, 6, 235, 280, 0, 240, 280}, {4, 9, 355, 400, 0, 355, 400}});
        Check.due("waiting: 12", x.count(12), 125 + 40 + 40 + 40 + 45);
    }

    private static void endedByEach() {
        TitleCaller x = new TitleCaller();
        x.title(LINE, 1, 10, 1);
        x.title(EACH, 4, 1, 1);
        x.title(EACH, 6, 4, 1);
        x.title(EACH, 7, 1, 1);
        dueShowings("ended", x, new int[][] {{0, 1, 35, 440, 0, 35, 160}, {1, 4, 160, 200, 0, 160, 200},
            {2, 6, 240, 400, 0, 240, 280}, {3, 7, 280, 320, 0, 280, 320}});
        Check.due("ended: it does not come again", x.at(200), NONE);
        Check.due("ended: nor behind 7", x.at(320), NONE);
    }

    private static void endedNotAheadOfItsBeginning() {
        TitleCaller x = new TitleCaller();
        x.title(LINE, 1, 3, 1);
        x.title(LINE, 1, 5, 80);
        x.title(EACH, 2, 10, 1);
        dueShowings("not ahead", x, new int[][] {{0, 1, 35, 160, 0, 35, 160}, {1, 1, 35, 240, 0, 160, 160},
            {2, 2, 80, 480, 0, 160, 480}});
        Check.due("not ahead: no time to read", x.showing(1, 7), 999);
        Check.due("not ahead: at(160)", x.at(160), 2);
        Check.due("not ahead: shows", x.ofTitle(1, 5), 1);
        Check.due("not ahead: for 0 tenths", x.ofTitle(1, 6), 0);
    }

    private static void tooShortChangesNothing() {
        TitleCaller x = new TitleCaller();
        x.title(LINE, 1, 10, 1);
        x.title(EACH, 3, 1, 1);
        x.shortest(41);
        dueShowings("too short", x, new int[][] {{0, 1, 35, 440, 0, 35, 440}, {1, 3, 120, 160, 2, NONE, NONE}});
        x.shortest(40);
        dueShowings("just not", x, new int[][] {{0, 1, 35, 440, 0, 35, 120}, {1, 3, 120, 160, 0, 120, 160}});
    }

    private static void shortestIsEnough() {
        TitleCaller x = new TitleCaller();
        x.title(LINE, 0, 1, 1);
        x.title(LINE, 0, 2, 1);
        x.shortest(40);
        dueShowings("40 of 40", x, new int[][] {{0, 0, 0, 40, 0, 0, 40}, {1, 0, 0, 80, 0, 40, 80}});
        x.shortest(41);
        dueShowings("40 of 41", x, new int[][] {{0, 0, 0, 40, 2, NONE, NONE}, {1, 0, 0, 80, 0, 0, 80}});
        x.shortest(10);
        x.title(EACH, 1, 2, 1);
        // It shows for no tenth in the end, but it was long enough when it was looked at.
        dueShowings("as it is looked at", x, new int[][] {{0, 0, 0, 40, 0, 0, 40}, {1, 0, 0, 80, 0, 40, 40},
            {2, 1, 40, 120, 0, 40, 120}});
    }

    private static void noTenths() {
        TitleCaller x = new TitleCaller();
        x.title(LINE, 0, 5, 1);
        x.title(LINE, 0, 1, 1);
        x.shortest(1);
        dueShowings("below 1", x, new int[][] {{0, 0, 0, 200, 0, 0, 200}, {1, 0, 0, 40, 2, NONE, NONE}});
        x.shortest(0);
        dueShowings("0 is enough", x, new int[][] {{0, 0, 0, 200, 0, 0, 200}, {1, 0, 0, 40, 0, 200, 200}});
        x.title(EACH, 1, 2, 1);
        dueShowings("behind it", x, new int[][] {{0, 0, 0, 200, 0, 0, 200}, {1, 0, 0, 40, 0, 200, 200},
            {2, 1, 40, 120, 0, 200, 200}});
        Check.due("0 is enough: 12", x.count(12), 200);
        Check.due("0 is enough: at(200)", x.at(200), NONE);
    }

    private static void blackoutByTime() {
        TitleCaller x = new TitleCaller();
        x.shortest(0);
        x.blackout(2, 3);
        x.title(LINE, 2, 1, 1);
        x.title(EACH, 2, 1, 1);
        x.title(EACH, 3, 5, 1);
        x.title(LINE, 4, 1, 1);
        x.title(EACH, 4, 1, 1);
        x.title(NOTE, 5, 1, 1);
        dueShowings("blackout", x, new int[][] {{0, 2, 75, 120, 0, 75, 120}, {1, 2, 80, 120, 1, NONE, NONE},
            {2, 3, 120, 320, 1, NONE, NONE}, {3, 4, 155, 200, 1, NONE, NONE}, {4, 4, 160, 200, 0, 160, 200},
            {5, 5, 180, 240, 0, 200, 240}});
        Check.due("blackout: 10", x.count(10), 3);
        x.blackout(4, 4);
        Check.due("two blackouts: 10", x.count(10), 5);
    }

    private static void waitsIntoABlackout() {
        TitleCaller x = new TitleCaller();
        x.blackout(2, 9);
        x.title(LINE, 0, 3, 1);
        x.title(LINE, 0, 4, 1);
        dueShowings("waits into it", x, new int[][] {{0, 0, 0, 120, 0, 0, 120}, {1, 0, 0, 160, 0, 120, 160}});
    }

    private static void blackoutBeyondTheNight() {
        TitleCaller x = new TitleCaller();
        x.title(EACH, 31, 1, 1);
        x.title(EACH, 30, 1, 1);
        x.blackout(32, 199);
        Check.due("no such place", x.count(10), 0);
        x.blackout(31, 31);
        Check.due("the last place", x.count(10), 1);
        x.undoSpan(2, 1);
        x.blackout(30, 32);
        Check.due("until the end of the night", x.count(10), 2);
    }

    private static void blackoutAheadOfTooShort() {
        TitleCaller x = new TitleCaller();
        x.shortest(50);
        x.title(EACH, 5, 1, 1);
        Check.due("too short", x.showing(0, 4), 2);
        x.blackout(5, 5);
        Check.due("blackout first", x.showing(0, 4), 1);
    }

    private static void blackoutChangesNothing() {
        TitleCaller x = new TitleCaller();
        x.blackout(3, 3);
        x.title(LINE, 1, 10, 1);
        x.title(EACH, 3, 4, 1);
        x.title(LINE, 5, 7, 1);
        dueShowings("dropped", x, new int[][] {{0, 1, 35, 440, 0, 35, 440}, {1, 3, 120, 280, 1, NONE, NONE},
            {2, 5, 195, 480, 0, 440, 480}});
    }
}
