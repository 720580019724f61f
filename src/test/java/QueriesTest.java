/** Promises 11 to 18: what there is, and what would be. */
public final class QueriesTest {
    private static final int LOWEST = Integer.MIN_VALUE;
    private static final int HIGHEST = Integer.MAX_VALUE;

    public static void main(String[] args) {
        promise11OfBar();
        promise12Sung();
        promise13OfTitle();
        promise14Showing();
        promise14AsManyAsThereCanBe();
        promise15At();
        promise16Count();
        promise17CutIf();
        promise17LostToABlackout();
        promise18Slowest();
        Check.finish("QueriesTest");
    }

    private static void promise11OfBar() {
        TitleCaller x = new TitleCaller();
        x.bars(10);
        x.bar(3, 5, 77);
        x.repeat(2, 4);
        x.cut(4, 5);
        int[][] bars = {{0, 4, 60, 40, 1, 0, 0}, {2, 4, 60, 40, 2, 2, 0}, {3, 5, 77, 38, 2, 3, 0},
            {4, 4, 60, 40, 0, TitleCaller.NONE, 1}, {5, 4, 60, 40, 0, TitleCaller.NONE, 1}, {6, 4, 60, 40, 1, 6, 0},
            {9, 4, 60, 40, 1, 9, 0}};
        for (int[] row : bars) {
            for (int what = 0; what < 6; what++) {
                Check.due("11 ofBar(" + row[0] + ", " + what + ")", x.ofBar(row[0], what), row[what + 1]);
            }
        }
        Check.due("11 no such bar first", x.ofBar(10, 6), TitleCaller.NO_SUCH);
        Check.due("11 bar -1", x.ofBar(-1, 0), TitleCaller.NO_SUCH);
        Check.due("11 bar lowest", x.ofBar(LOWEST, 0), TitleCaller.NO_SUCH);
        Check.due("11 what 6", x.ofBar(9, 6), TitleCaller.BAD_VALUE);
        Check.due("11 what -1", x.ofBar(9, -1), TitleCaller.BAD_VALUE);
        Check.due("11 what highest", x.ofBar(9, HIGHEST), TitleCaller.BAD_VALUE);
    }

    private static void promise12Sung() {
        TitleCaller x = new TitleCaller();
        x.bars(5);
        x.bar(1, 1, 60);
        x.bar(3, 3, 60);
        x.repeat(1, 2);
        x.cut(0, 0);
        x.blackout(1, 2);
        x.blackout(5, 9);
        int[] bars = {1, 2, 1, 2, 3, 4};
        int[] times = {0, 10, 50, 60, 100, 130};
        int[] black = {0, 1, 1, 0, 0, 1};
        for (int place = 0; place < bars.length; place++) {
            Check.due("12 bar at " + place, x.sung(place, 0), bars[place]);
            Check.due("12 time at " + place, x.sung(place, 1), times[place]);
            Check.due("12 blackout at " + place, x.sung(place, 2), black[place]);
        }
        Check.due("12 no such place first", x.sung(6, 3), TitleCaller.NO_SUCH);
        Check.due("12 place -1", x.sung(-1, 0), TitleCaller.NO_SUCH);
        Check.due("12 place highest", x.sung(HIGHEST, 0), TitleCaller.NO_SUCH);
        Check.due("12 what 3", x.sung(5, 3), TitleCaller.BAD_VALUE);
        Check.due("12 what -1", x.sung(5, -1), TitleCaller.BAD_VALUE);
        x.bars(60);
        x.undoSpan(1, 0);
        x.undoSpan(0, 0);
        x.repeat(0, 59);
        Check.due("12 the most places", x.count(6), 120);
        Check.due("12 the last of them", x.sung(119, 0), 59);
        Check.due("12 one too many", x.sung(120, 0), TitleCaller.NO_SUCH);
    }

    private static void promise13OfTitle() {
        TitleCaller x = new TitleCaller();
        x.bars(6);
        x.repeat(1, 2);
        x.title(TitleCaller.EACH, 2, 2, 33);
        x.title(TitleCaller.LINE, 2, 1, 8);
        x.title(TitleCaller.NOTE, 4, 20, 9);
        // Due: 0: 80 to 160, then 160 to 240; 1: 75 to 120; 2: 220 to 320. 1 has to wait till 160, which is too late.
        int[][] titles = {{1, 2, 2, 33, 2, 2, 160}, {0, 2, 1, 8, 1, 0, 0}, {2, 4, 20, 9, 1, 1, 80}};
        for (int title = 0; title < titles.length; title++) {
            for (int what = 0; what < 7; what++) {
                Check.due("13 ofTitle(" + title + ", " + what + ")", x.ofTitle(title, what), titles[title][what]);
            }
        }
        x.blackout(4, 4);
        Check.due("13 has both still", x.ofTitle(0, 4), 2);
        Check.due("13 one shows", x.ofTitle(0, 5), 1);
        Check.due("13 for less", x.ofTitle(0, 6), 80);
        Check.due("13 no such title first", x.ofTitle(3, 7), TitleCaller.NO_SUCH);
        Check.due("13 title -1", x.ofTitle(-1, 0), TitleCaller.NO_SUCH);
        Check.due("13 title lowest", x.ofTitle(LOWEST, 0), TitleCaller.NO_SUCH);
        Check.due("13 what 7", x.ofTitle(2, 7), TitleCaller.BAD_VALUE);
        Check.due("13 what -1", x.ofTitle(2, -1), TitleCaller.BAD_VALUE);
    }

    private static void promise14Showing() {
        TitleCaller x = new TitleCaller();
        x.bars(6);
        x.title(TitleCaller.EACH, 3, 1, 80);
        x.title(TitleCaller.LINE, 1, 2, 79);
        x.title(TitleCaller.NOTE, 3, 1, 5);
        x.title(TitleCaller.EACH, 5, 1, 1);
        x.blackout(5, 5);
        int none = TitleCaller.NONE;
        int[][] showings = {{1, 1, 35, 120, 0, 35, 120, 9}, {0, 3, 120, 160, 0, 120, 160, 20},
            {2, 3, 100, 160, 2, none, none, none}, {3, 5, 200, 240, 1, none, none, none}};
        for (int showing = 0; showing < showings.length; showing++) {
            for (int what = 0; what < 8; what++) {
                Check.due("14 showing(" + showing + ", " + what + ")", x.showing(showing, what), showings[showing][what]);
            }
        }
        Check.due("14 no such showing first", x.showing(4, 8), TitleCaller.NO_SUCH);
        Check.due("14 showing -1", x.showing(-1, 0), TitleCaller.NO_SUCH);
        Check.due("14 showing highest", x.showing(HIGHEST, 0), TitleCaller.NO_SUCH);
        Check.due("14 what 8", x.showing(3, 8), TitleCaller.BAD_VALUE);
        Check.due("14 what -1", x.showing(3, -1), TitleCaller.BAD_VALUE);
    }

    private static void promise14AsManyAsThereCanBe() {
        TitleCaller x = new TitleCaller();
        x.bars(60);
        x.repeat(0, 59);
        for (int title = 0; title < 20; title++) {
            x.title(TitleCaller.EACH, 40 + title, 1, 1);
        }
        Check.due("14 showings", x.count(8), 40);
        Check.due("14 all show", x.count(9), 40);
        Check.due("14 none too short", x.count(11), 0);
        Check.due("14 the last one", x.showing(39, 0), 19);
        Check.due("14 its place", x.showing(39, 1), 119);
        Check.due("14 until the end of the night", x.showing(39, 6), 4800);
        Check.due("14 no other", x.showing(40, 0), TitleCaller.NO_SUCH);
        Check.due("14 for all of these bars", x.count(12), 1600);
        Check.due("14 at the end", x.at(4799), 19);
        Check.due("14 two of each", x.ofTitle(19, 5), 2);
        Check.due("14 tenths of each", x.ofTitle(19, 6), 80);
        Check.due("14 a cut of all", x.cutIf(0, 59, 1), (1 << 20) - 1);
        Check.due("14 slowest", x.slowest(14400), 20);
        Check.due("14 slower", x.slowest(14399), 21);
        x.undoSpan(0, 0);
        Check.due("14 once", x.count(8), 20);
        x.title(TitleCaller.EACH, 0, 1, 1);
        x.drop(0);
        x.title(TitleCaller.EACH, 0, 1, 1);
        Check.due("14 the places of before are gone", x.count(8), 20);
        Check.due("14 the title at bar 0", x.ofTitle(19, 4), 1);
    }

    private static void promise15At() {
        TitleCaller x = new TitleCaller();
        x.title(TitleCaller.NOTE, 31, 1, 1);
        x.title(TitleCaller.EACH, 2, 1, 1);
        x.title(TitleCaller.LINE, 2, 2, 1);
        int none = TitleCaller.NONE;
        int[][] times = {{0, none}, {79, none}, {80, 1}, {119, 1}, {120, 2}, {159, 2}, {160, none}, {1219, none},
            {1220, 0}, {1279, 0}, {1280, none}, {HIGHEST, none}, {-1, TitleCaller.BAD_VALUE},
            {LOWEST, TitleCaller.BAD_VALUE}};
        for (int[] row : times) {
            Check.due("15 at(" + row[0] + ")", x.at(row[0]), row[1]);
        }
        x.drop(0);
        Check.due("15 moved up", x.at(120), 1);
        Check.due("15 dropped", x.at(1279), none);
    }

    private static void promise16Count() {
        TitleCaller x = new TitleCaller();
        x.bars(20);
        x.shortest(21);
        x.repeat(2, 3);
        x.repeat(5, 5);
        x.cut(10, 12);
        x.blackout(0, 1);
        x.blackout(3, 3);
        x.blackout(30, 40);
        x.title(TitleCaller.EACH, 1, 1, 1);
        x.title(TitleCaller.EACH, 2, 1, 1);
        x.title(TitleCaller.LINE, 4, 1, 1);
        x.title(TitleCaller.LINE, 4, 1, 1);
        x.put(Check.pack("abc"));
        // Places: 0 1 2 3 2 3 4 5 5 6 7 8 9 13 to 19; the last LINE would have to wait till it is over.
        int[] counts = {20, 2, 1, 3, 4, 21, 20, 800, 5, 3, 1, 1, 125, 3, 6};
        for (int what = 0; what < counts.length; what++) {
            Check.due("16 count(" + what + ")", x.count(what), counts[what]);
        }
        int[] bad = {-1, 15, LOWEST, HIGHEST};
        for (int what : bad) {
            Check.due("16 count(" + what + ")", x.count(what), TitleCaller.BAD_VALUE);
        }
    }

    private static void promise17CutIf() {
        TitleCaller x = new TitleCaller();
        x.bars(10);
        x.repeat(2, 3);
        x.title(TitleCaller.LINE, 2, 1, 1);
        x.title(TitleCaller.EACH, 3, 1, 1);
        x.title(TitleCaller.NOTE, 9, 1, 1);
        Check.due("17 shorter by both", x.cutIf(2, 3, 0), 160);
        Check.due("17 both titles", x.cutIf(2, 3, 1), 3);
        Check.due("17 the last", x.cutIf(9, 9, 1), 4);
        Check.due("17 all", x.cutIf(0, 9, 1), 7);
        Check.due("17 the night", x.cutIf(0, 9, 0), 480);
        Check.due("17 nothing changed", x.count(2), 0);
        Check.due("17 the night as it was", x.count(7), 480);
        Check.due("17 nothing recorded", x.count(14), 5);
        Check.due("17 no such bar first", x.cutIf(10, 9, 2), TitleCaller.NO_SUCH);
        Check.due("17 no such last bar", x.cutIf(9, 10, 0), TitleCaller.NO_SUCH);
        Check.due("17 first -1", x.cutIf(-1, 0, 0), TitleCaller.NO_SUCH);
        Check.due("17 last below first", x.cutIf(5, 4, 0), TitleCaller.BAD_VALUE);
        Check.due("17 what 2", x.cutIf(4, 5, 2), TitleCaller.BAD_VALUE);
        Check.due("17 what -1", x.cutIf(4, 5, -1), TitleCaller.BAD_VALUE);
        x.cut(3, 3);
        Check.due("17 what is cut already", x.cutIf(3, 3, 0), 0);
        Check.due("17 what is lost already", x.cutIf(3, 3, 1), 0);
        Check.due("17 what it does more", x.cutIf(2, 3, 0), 80);
        x.cut(0, 0);
        x.cut(0, 0);
        x.cut(0, 0);
        Check.due("17 too many", x.cutIf(4, 5, 1), TitleCaller.TOO_MANY);
        Check.due("17 bad value before too many", x.cutIf(4, 5, 2), TitleCaller.BAD_VALUE);
        Check.due("17 no such before too many", x.cutIf(4, 10, 2), TitleCaller.NO_SUCH);
    }

    // Places move up when bars ahead of them are cut, and blackouts are tied to places.
    private static void promise17LostToABlackout() {
        TitleCaller x = new TitleCaller();
        x.title(TitleCaller.EACH, 4, 1, 1);
        x.title(TitleCaller.EACH, 3, 1, 1);
        x.title(TitleCaller.EACH, 8, 1, 1);
        x.blackout(3, 3);
        Check.due("17 4 comes into it, 3 shows", x.cutIf(0, 0, 1), 1);
        Check.due("17 nothing behind it", x.cutIf(5, 7, 1), 0);
        Check.due("17 is so", x.cut(0, 0), 0);
        Check.due("17 4 does not show", x.ofTitle(0, 5), 0);
        Check.due("17 3 shows", x.ofTitle(1, 5), 1);
        Check.due("17 a title with no tenths shows", lostWithNoTenths(), 2);
    }

    private static int lostWithNoTenths() {
        TitleCaller x = new TitleCaller();
        x.shortest(0);
        x.title(TitleCaller.LINE, 0, 1, 1);
        x.title(TitleCaller.LINE, 0, 1, 1);
        x.title(TitleCaller.LINE, 1, 1, 1);
        x.shortest(1);
        int dropped = x.cutIf(0, 0, 1);
        x.shortest(0);
        return x.cutIf(0, 0, 1) - dropped;
    }

    private static void promise18Slowest() {
        TitleCaller x = new TitleCaller();
        int none = TitleCaller.NONE;
        int[][] times = {{HIGHEST, 20}, {3840, 20}, {3839, 21}, {3648, 21}, {1280, 59}, {1279, 61}, {320, 219}, {319, none},
            {0, none}, {-1, TitleCaller.BAD_VALUE}, {LOWEST, TitleCaller.BAD_VALUE}};
        for (int[] row : times) {
            Check.due("18 slowest(" + row[0] + ")", x.slowest(row[0]), row[1]);
        }
        x.bar(0, 4, 240);
        Check.due("18 whatever the tempi are", x.slowest(320), 219);
        Check.due("18 they stay", x.ofBar(0, 1), 240);
        x.bar(0, 1, 60);
        Check.due("18 the beats count", x.slowest(312), 219);
        x.cut(1, 31);
        x.repeat(0, 0);
        Check.due("18 what is sung twice", x.slowest(60), 20);
        Check.due("18 a little less", x.slowest(59), 21);
        Check.due("18 the highest", x.slowest(4), 201);
        Check.due("18 below it", x.slowest(3), none);
        x.cut(0, 0);
        Check.due("18 nothing sung", x.slowest(0), 20);
    }
}
