/** What the calls tell of one another, in drawn scores: the sentences of the terms, as far as they show from outside. */
public final class AgreeTest {
    private static final int SCORES = 1500;
    private static final int[] LEAD = {5, 0, 20};

    private static long drawn = 20261119;
    private static String where = "";

    public static void main(String[] args) {
        for (int score = 0; score < SCORES; score++) {
            where = "score " + score + ": ";
            TitleCaller x = drawnScore(score % 3);
            bars(x);
            places(x);
            coming(x);
            turns(x);
            titles(x);
            times(x);
            cutIfAsTheCutDoes(x);
            slowestAsTheTempoDoes(x);
        }
        Check.finish("AgreeTest");
    }

    private static int draw(int below) {
        drawn = drawn * 6364136223846793005L + 1442695040888963407L;
        return (int) ((drawn >>> 33) % below);
    }

    /** Moods: 0 short bars, 1 bars of all lengths, 2 bars as they are at first. */
    private static TitleCaller drawnScore(int mood) {
        TitleCaller x = new TitleCaller();
        int bars = 1 + draw(14);
        x.bars(bars);
        for (int bar = 0; bar < bars && mood < 2; bar++) {
            x.bar(bar, mood == 0 ? 1 + draw(2) : 1 + draw(12), mood == 0 ? 180 + draw(61) : 20 + draw(221));
        }
        for (int span = draw(4); span > 0; span--) {
            int first = draw(bars);
            x.repeat(first, Math.min(bars - 1, first + draw(4)));
        }
        for (int span = draw(3); span > 0; span--) {
            int first = draw(bars);
            x.cut(first, Math.min(bars - 1, first + draw(3)));
        }
        for (int span = draw(4); span > 0; span--) {
            int first = draw(2 * bars);
            x.blackout(first, first + draw(3));
        }
        x.shortest(draw(3) == 0 ? 0 : draw(51) / (1 + draw(5)));
        for (int title = draw(21); title > 0; title--) {
            x.title(draw(3), draw(bars), 1 + draw(draw(2) == 0 ? 3 : 20), 1 + draw(80));
        }
        return x;
    }

    private static void due(String what, int got, int want) {
        Check.due(where + what, got, want);
    }

    private static void bars(TitleCaller x) {
        int places = 0;
        int tenths = 0;
        for (int bar = 0; bar < x.count(0); bar++) {
            due("tenths of bar " + bar, x.ofBar(bar, 2), 600 * x.ofBar(bar, 0) / x.ofBar(bar, 1));
            int first = TitleCaller.NONE;
            int often = 0;
            for (int place = x.count(6) - 1; place >= 0; place--) {
                if (x.sung(place, 0) == bar) {
                    first = place;
                    often++;
                }
            }
            due("bar " + bar + " is so often sung", x.ofBar(bar, 3), often);
            due("bar " + bar + " is first sung", x.ofBar(bar, 4), first);
            due("bar " + bar + " is cut", x.ofBar(bar, 5), often == 0 ? 1 : 0);
            places += often;
            tenths += often * x.ofBar(bar, 2);
        }
        due("all places", x.count(6), places);
        due("the night", x.count(7), tenths);
    }

    private static void places(TitleCaller x) {
        int time = 0;
        for (int place = 0; place < x.count(6); place++) {
            due("place " + place + " begins", x.sung(place, 1), time);
            time += x.ofBar(x.sung(place, 0), 2);
        }
        due("the last one ends", x.count(7), time);
        due("a place behind it", x.sung(x.count(6), 0), TitleCaller.NO_SUCH);
    }

    /** The showings are the titles that come, in the order of the places, of like ones in that of the numbers. */
    private static void coming(TitleCaller x) {
        int showing = 0;
        for (int place = 0; place < x.count(6); place++) {
            for (int title = 0; title < x.count(4); title++) {
                if (comes(x, title, place)) {
                    int lead = LEAD[x.ofTitle(title, 0)];
                    due("showing " + showing + " of", x.showing(showing, 0), title);
                    due("showing " + showing + " comes with", x.showing(showing, 1), place);
                    due("showing " + showing + " from", x.showing(showing, 2), Math.max(0, x.sung(place, 1) - lead));
                    due("showing " + showing + " until", x.showing(showing, 3), beginOrEnd(x, place + x.ofTitle(title, 2)));
                    showing++;
                }
            }
        }
        due("showings", x.count(8), showing);
        due("a showing behind them", x.showing(showing, 0), TitleCaller.NO_SUCH);
    }

    private static boolean comes(TitleCaller x, int title, int place) {
        int bar = x.ofTitle(title, 1);
        if (x.sung(place, 0) != bar) {
            return false;
        }
        int sungAhead = 0;
        for (int ahead = 0; ahead < place; ahead++) {
            sungAhead += x.sung(ahead, 0) == bar ? 1 : 0;
        }
        switch (x.ofTitle(title, 0)) {
            case TitleCaller.LINE: return sungAhead == 0;
            case TitleCaller.NOTE: return sungAhead == x.ofBar(bar, 3) - 1;
            default: return true;
        }
    }

    private static int beginOrEnd(TitleCaller x, int place) {
        return place < x.count(6) ? x.sung(place, 1) : x.count(7);
    }

    /** What each showing does follows from the ones next to it that show, ahead of it and behind it. */
    private static void turns(TitleCaller x) {
        int[] reasons = new int[3];
        for (int showing = 0; showing < x.count(8); showing++) {
            int begin = wouldBegin(x, showing);
            int tenths = Math.max(0, x.showing(showing, 3) - begin);
            int reason = isBlackAt(x, x.showing(showing, 2)) ? 1 : tenths < x.count(5) ? 2 : 0;
            boolean shows = reason == 0;
            int end = shows ? endOf(x, showing) : TitleCaller.NONE;
            due("reason of showing " + showing, x.showing(showing, 4), reason);
            due("showing " + showing + " begins", x.showing(showing, 5), shows ? begin : TitleCaller.NONE);
            due("showing " + showing + " ends", x.showing(showing, 6), end);
            int letters = 10 * x.ofTitle(x.showing(showing, 0), 3);
            int pace = !shows ? TitleCaller.NONE : end == begin ? 999 : letters / (end - begin);
            due("letters of showing " + showing, x.showing(showing, 7), pace);
            reasons[reason]++;
        }
        for (int reason = 0; reason < 3; reason++) {
            due("showings with reason " + reason, x.count(9 + reason), reasons[reason]);
        }
    }

    private static int wouldBegin(TitleCaller x, int showing) {
        int from = x.showing(showing, 2);
        int ahead = nextThatShows(x, showing, -1);
        if (ahead < 0 || endByItself(x, ahead) <= from) {
            return from;
        }
        return isEach(x, showing) ? Math.max(from, x.showing(ahead, 5)) : endByItself(x, ahead);
    }

    private static int endOf(TitleCaller x, int showing) {
        int behind = nextThatShows(x, showing, 1);
        boolean isEnded = behind >= 0 && isEach(x, behind);
        return isEnded ? Math.min(endByItself(x, showing), x.showing(behind, 5)) : endByItself(x, showing);
    }

    private static int endByItself(TitleCaller x, int showing) {
        return Math.max(x.showing(showing, 3), x.showing(showing, 5));
    }

    private static boolean isEach(TitleCaller x, int showing) {
        return x.ofTitle(x.showing(showing, 0), 0) == TitleCaller.EACH;
    }

    private static int nextThatShows(TitleCaller x, int showing, int step) {
        int next = showing + step;
        while (next >= 0 && next < x.count(8) && x.showing(next, 4) != 0) {
            next += step;
        }
        return next < x.count(8) ? next : -1;
    }

    /** A time is within a blackout if the place that is sung then is in one. */
    private static boolean isBlackAt(TitleCaller x, int time) {
        for (int place = 0; place < x.count(6); place++) {
            if (x.sung(place, 1) <= time && time < beginOrEnd(x, place + 1)) {
                return x.sung(place, 2) == 1;
            }
        }
        return false;
    }

    private static void titles(TitleCaller x) {
        for (int title = 0; title < x.count(4); title++) {
            int[] sums = new int[3];
            for (int showing = 0; showing < x.count(8); showing++) {
                if (x.showing(showing, 0) == title) {
                    boolean shows = x.showing(showing, 4) == 0;
                    sums[0]++;
                    sums[1] += shows ? 1 : 0;
                    sums[2] += shows ? x.showing(showing, 6) - x.showing(showing, 5) : 0;
                }
            }
            for (int sum = 0; sum < 3; sum++) {
                due("title " + title + " what " + (4 + sum), x.ofTitle(title, 4 + sum), sums[sum]);
            }
        }
    }

    private static void times(TitleCaller x) {
        int tenths = 0;
        for (int time = 0; time <= x.count(7) + 1; time++) {
            int title = TitleCaller.NONE;
            int showings = 0;
            for (int showing = 0; showing < x.count(8); showing++) {
                if (x.showing(showing, 4) == 0 && x.showing(showing, 5) <= time && x.showing(showing, 6) > time) {
                    title = x.showing(showing, 0);
                    showings++;
                }
            }
            Check.holds(where + "one title alone shows at " + time, showings <= 1);
            due("at " + time, x.at(time), title);
            tenths += showings > 0 ? 1 : 0;
        }
        due("tenths for which something shows", x.count(12), tenths);
    }

    /** All that is told by looking, but for how many changes can be undone. */
    private static int[] toldWithoutHistory(TitleCaller x) {
        int[] told = Told.by(x);
        told[14] = 0;
        return told;
    }

    private static void cutIfAsTheCutDoes(TitleCaller x) {
        int[] before = toldWithoutHistory(x);
        for (int first = 0; first < x.count(0); first++) {
            int last = Math.min(x.count(0) - 1, first + draw(3));
            int end = x.count(7);
            int shown = shownTitles(x);
            int shorter = x.cutIf(first, last, 0);
            int lost = x.cutIf(first, last, 1);
            x.cut(first, last);
            due("cutIf " + first + " " + last + " 0", shorter, end - x.count(7));
            due("cutIf " + first + " " + last + " 1", lost, shown & ~shownTitles(x));
            x.undo();
        }
        Check.same(where + "behind each cut that was undone", toldWithoutHistory(x), before);
    }

    private static int shownTitles(TitleCaller x) {
        int shown = 0;
        for (int title = 0; title < x.count(4); title++) {
            shown |= x.ofTitle(title, 5) > 0 ? 1 << title : 0;
        }
        return shown;
    }

    private static void slowestAsTheTempoDoes(TitleCaller x) {
        int[] before = toldWithoutHistory(x);
        x.save(1);
        for (int tries = 0; tries < 5; tries++) {
            int time = draw(2 * x.count(7) + 2);
            int tempo = x.slowest(time);
            if (tempo == TitleCaller.NONE) {
                Check.holds(where + "not even 240 by " + time, endAtTempo(x, 240) > time);
            } else {
                Check.holds(where + tempo + " by " + time, tempo >= 20 && tempo <= 240 && endAtTempo(x, tempo) <= time);
                Check.holds(where + tempo + " is the lowest by " + time, tempo == 20 || endAtTempo(x, tempo - 1) > time);
            }
        }
        Check.same(where + "behind each tempo that was restored", toldWithoutHistory(x), before);
    }

    private static int endAtTempo(TitleCaller x, int tempo) {
        for (int bar = 0; bar < x.count(0); bar++) {
            x.bar(bar, x.ofBar(bar, 0), tempo);
        }
        int end = x.count(7);
        x.restore(1);
        return end;
    }
}
