import java.util.ArrayList;
import java.util.Arrays;
import java.util.List;
import java.util.regex.Matcher;
import java.util.regex.Pattern;

/** A second reading of the document, written for plainness: lists, regular expressions, and all worked out anew at each call. */
final class Model {
    private static final int NO_SUCH = -1, BAD_VALUE = -2, BAD_TEXT = -3, TOO_MANY = -4, NOT_POSSIBLE = -5, NONE = -6;
    private static final String NUMBER = "(?:0|[1-9][0-9]{0,2})";
    private static final String ORDER = "(?:b" + NUMBER + "=" + NUMBER + "@" + NUMBER + "|[rx]" + NUMBER + "-" + NUMBER
            + "|[len]" + NUMBER + "\\+" + NUMBER + ":" + NUMBER + "|-" + NUMBER + ")";
    private static final Pattern TEXT = Pattern.compile(ORDER + "(?:;" + ORDER + ")*");

    private static final class State {
        int bars = 32;
        int shortest = 10;
        int[][] beatsAndTempo = new int[60][];
        List<List<int[]>> spans = List.of(new ArrayList<>(), new ArrayList<>(), new ArrayList<>());
        List<int[]> titles = new ArrayList<>();

        State copy() {
            State copy = new State();
            copy.bars = bars;
            copy.shortest = shortest;
            copy.beatsAndTempo = beatsAndTempo.clone();
            for (int what = 0; what < 3; what++) {
                copy.spans.get(what).addAll(spans.get(what));
            }
            copy.titles.addAll(titles);
            return copy;
        }
    }

    private static final class Show {
        int title, place, from, until, reason, begin, end;
    }

    private State state = new State();
    private final List<State> history = new ArrayList<>();
    private final State[] slots = new State[2];
    private String pad = "";

    Model() {
        for (int bar = 0; bar < 60; bar++) {
            state.beatsAndTempo[bar] = new int[] {4, 60};
        }
    }

    private int changed(State before, int answer) {
        if (answer >= 0) {
            history.add(before);
            if (history.size() > 6) {
                history.remove(0);
            }
        }
        return answer;
    }

    int bars(int bars) {
        return changed(state.copy(), doBars(bars));
    }

    private int doBars(int bars) {
        if (bars < 1 || bars > 60) return BAD_VALUE;
        for (int what = 0; what < 2; what++) {
            for (int[] span : state.spans.get(what)) {
                if (span[1] >= bars) return NOT_POSSIBLE;
            }
        }
        for (int[] title : state.titles) {
            if (title[1] >= bars) return NOT_POSSIBLE;
        }
        int previous = state.bars;
        state.bars = bars;
        return previous;
    }

    int shortest(int tenths) {
        if (tenths < 0 || tenths > 50) return BAD_VALUE;
        changed(state.copy(), 0);
        int previous = state.shortest;
        state.shortest = tenths;
        return previous;
    }

    int bar(int bar, int beats, int tempo) {
        return changed(state.copy(), doBar(bar, beats, tempo));
    }

    private int doBar(int bar, int beats, int tempo) {
        if (noBar(bar)) return NO_SUCH;
        if (beats < 1 || beats > 12 || tempo < 20 || tempo > 240) return BAD_VALUE;
        state.beatsAndTempo[bar] = new int[] {beats, tempo};
        return 600 * beats / tempo;
    }

    private boolean noBar(int bar) {
        return bar < 0 || bar >= state.bars;
    }

    int repeat(int first, int last) {
        return changed(state.copy(), doRepeat(first, last));
    }

    private int doRepeat(int first, int last) {
        List<int[]> repeats = state.spans.get(0);
        if (noBar(first) || noBar(last)) return NO_SUCH;
        if (last < first) return BAD_VALUE;
        if (repeats.size() == 4) return TOO_MANY;
        for (int bar = first; bar <= last; bar++) {
            if (within(repeats, bar)) return NOT_POSSIBLE;
        }
        repeats.add(new int[] {first, last});
        return repeats.size() - 1;
    }

    private static boolean within(List<int[]> spans, int number) {
        for (int[] span : spans) {
            if (span[0] <= number && number <= span[1]) return true;
        }
        return false;
    }

    int cut(int first, int last) {
        return changed(state.copy(), doCut(first, last));
    }

    private int doCut(int first, int last) {
        if (noBar(first) || noBar(last)) return NO_SUCH;
        if (last < first) return BAD_VALUE;
        if (state.spans.get(1).size() == 4) return TOO_MANY;
        state.spans.get(1).add(new int[] {first, last});
        return state.spans.get(1).size() - 1;
    }

    int blackout(int first, int last) {
        if (first < 0 || first > 199 || last < first || last > 199) return BAD_VALUE;
        if (state.spans.get(2).size() == 3) return TOO_MANY;
        changed(state.copy(), 0);
        state.spans.get(2).add(new int[] {first, last});
        return state.spans.get(2).size() - 1;
    }

    int undoSpan(int what, int number) {
        if (what < 0 || what > 2) return BAD_VALUE;
        if (number < 0 || number >= state.spans.get(what).size()) return NO_SUCH;
        changed(state.copy(), 0);
        state.spans.get(what).remove(number);
        return state.spans.get(what).size();
    }

    int title(int kind, int bar, int bars, int letters) {
        return changed(state.copy(), doTitle(kind, bar, bars, letters));
    }

    private int doTitle(int kind, int bar, int bars, int letters) {
        if (noBar(bar)) return NO_SUCH;
        if (kind < 0 || kind > 2 || bars < 1 || bars > 20 || letters < 1 || letters > 80) return BAD_VALUE;
        if (state.titles.size() == 20) return TOO_MANY;
        state.titles.add(new int[] {kind, bar, bars, letters});
        return state.titles.size() - 1;
    }

    int drop(int title) {
        return changed(state.copy(), doDrop(title));
    }

    private int doDrop(int title) {
        if (title < 0 || title >= state.titles.size()) return NO_SUCH;
        state.titles.remove(title);
        return state.titles.size();
    }

    private static List<Integer> sungBars(State s) {
        List<Integer> sung = new ArrayList<>();
        for (int bar = 0; bar < s.bars; bar++) {
            sung.add(bar);
            for (int[] repeat : s.spans.get(0)) {
                for (int again = repeat[0]; repeat[1] == bar && again <= bar; again++) {
                    sung.add(again);
                }
            }
        }
        sung.removeIf(bar -> within(s.spans.get(1), bar));
        return sung;
    }

    private static int tenths(State s, int bar) {
        return 600 * s.beatsAndTempo[bar][0] / s.beatsAndTempo[bar][1];
    }

    /** The times at which the places begin, and the end of the night behind them. */
    private static int[] timesOf(State s) {
        List<Integer> sung = sungBars(s);
        int[] times = new int[sung.size() + 1];
        for (int place = 0; place < sung.size(); place++) {
            times[place + 1] = times[place] + tenths(s, sung.get(place));
        }
        return times;
    }

    private static int timeOf(int[] times, int place) {
        return times[Math.min(place, times.length - 1)];
    }

    private static int endOf(State s) {
        return timeOf(timesOf(s), 1000);
    }

    private static List<Show> shows(State s) {
        List<Integer> sung = sungBars(s);
        int[] times = timesOf(s);
        List<Show> all = new ArrayList<>();
        for (int place = 0; place < sung.size(); place++) {
            for (int number = 0; number < s.titles.size(); number++) {
                int[] title = s.titles.get(number);
                boolean comes = sung.get(place) == title[1]
                        && (title[0] != 0 || sung.indexOf(title[1]) == place)
                        && (title[0] != 2 || sung.lastIndexOf(title[1]) == place);
                if (comes) {
                    Show show = new Show();
                    show.title = number;
                    show.place = place;
                    show.from = Math.max(0, times[place] - new int[] {5, 0, 20}[title[0]]);
                    show.until = timeOf(times, place + title[2]);
                    all.add(show);
                }
            }
        }
        look(s, all, times);
        return all;
    }

    private static void look(State s, List<Show> all, int[] times) {
        List<Show> shown = new ArrayList<>();
        for (Show show : all) {
            if (black(s, times, show.from)) {
                show.reason = 1;
                continue;
            }
            Show ahead = shown.isEmpty() ? null : shown.get(shown.size() - 1);
            boolean each = s.titles.get(show.title)[0] == 1;
            show.begin = show.from;
            if (ahead != null && ahead.end > show.from) {
                show.begin = each ? Math.max(show.from, ahead.begin) : ahead.end;
            }
            int length = show.until > show.begin ? show.until - show.begin : 0;
            if (length < s.shortest) {
                show.reason = 2;
                continue;
            }
            show.end = show.begin + length;
            if (each && ahead != null && ahead.end > show.from) {
                ahead.end = show.begin;
            }
            shown.add(show);
        }
    }

    private static boolean black(State s, int[] times, int time) {
        int places = times.length - 1;
        for (int[] blackout : s.spans.get(2)) {
            for (int place = blackout[0]; place <= blackout[1] && place < places; place++) {
                if (times[place] <= time && time < times[place + 1]) return true;
            }
        }
        return false;
    }

    int ofBar(int bar, int what) {
        if (noBar(bar)) return NO_SUCH;
        List<Integer> sung = sungBars(state);
        switch (what) {
            case 0: return state.beatsAndTempo[bar][0];
            case 1: return state.beatsAndTempo[bar][1];
            case 2: return tenths(state, bar);
            case 3: return (int) sung.stream().filter(other -> other == bar).count();
            case 4: return sung.contains(bar) ? sung.indexOf(bar) : NONE;
            case 5: return within(state.spans.get(1), bar) ? 1 : 0;
            default: return BAD_VALUE;
        }
    }

    int sung(int place, int what) {
        List<Integer> sung = sungBars(state);
        if (place < 0 || place >= sung.size()) return NO_SUCH;
        switch (what) {
            case 0: return sung.get(place);
            case 1: return timesOf(state)[place];
            case 2: return within(state.spans.get(2), place) ? 1 : 0;
            default: return BAD_VALUE;
        }
    }

    int ofTitle(int title, int what) {
        if (title < 0 || title >= state.titles.size()) return NO_SUCH;
        if (what >= 0 && what < 4) return state.titles.get(title)[what];
        List<Show> its = shows(state);
        its.removeIf(show -> show.title != title);
        if (what == 4) return its.size();
        its.removeIf(show -> show.reason != 0);
        if (what == 5) return its.size();
        return what == 6 ? its.stream().mapToInt(show -> show.end - show.begin).sum() : BAD_VALUE;
    }

    int showing(int showing, int what) {
        List<Show> all = shows(state);
        if (showing < 0 || showing >= all.size()) return NO_SUCH;
        Show show = all.get(showing);
        boolean there = show.reason == 0;
        switch (what) {
            case 0: return show.title;
            case 1: return show.place;
            case 2: return show.from;
            case 3: return show.until;
            case 4: return show.reason;
            case 5: return there ? show.begin : NONE;
            case 6: return there ? show.end : NONE;
            case 7:
                if (!there) return NONE;
                return show.end == show.begin ? 999 : state.titles.get(show.title)[3] * 10 / (show.end - show.begin);
            default: return BAD_VALUE;
        }
    }

    int at(int time) {
        if (time < 0) return BAD_VALUE;
        for (Show show : shows(state)) {
            if (show.reason == 0 && show.begin <= time && show.end > time) return show.title;
        }
        return NONE;
    }

    int count(int what) {
        switch (what) {
            case 0: return state.bars;
            case 1: case 2: case 3: return state.spans.get(what - 1).size();
            case 4: return state.titles.size();
            case 5: return state.shortest;
            case 6: return sungBars(state).size();
            case 7: return endOf(state);
            case 8: return shows(state).size();
            case 9: case 10: case 11: return (int) shows(state).stream().filter(show -> show.reason == what - 9).count();
            case 12: return tenthsWithATitle();
            case 13: return pad.length();
            case 14: return history.size();
            default: return BAD_VALUE;
        }
    }

    private int tenthsWithATitle() {
        List<Show> all = shows(state);
        all.removeIf(show -> show.reason != 0);
        int tenths = 0;
        boolean[] something = new boolean[endOf(state)];
        for (Show show : all) {
            Arrays.fill(something, show.begin, show.end, true);
        }
        for (boolean shows : something) {
            tenths += shows ? 1 : 0;
        }
        return tenths;
    }

    int cutIf(int first, int last, int what) {
        if (noBar(first) || noBar(last)) return NO_SUCH;
        if (last < first || what < 0 || what > 1) return BAD_VALUE;
        if (state.spans.get(1).size() == 4) return TOO_MANY;
        State then = state.copy();
        then.spans.get(1).add(new int[] {first, last});
        return what == 0 ? endOf(state) - endOf(then) : shownSet(state) & ~shownSet(then);
    }

    private static int shownSet(State s) {
        int set = 0;
        for (Show show : shows(s)) {
            set |= show.reason == 0 ? 1 << show.title : 0;
        }
        return set;
    }

    int slowest(int time) {
        if (time < 0) return BAD_VALUE;
        List<Integer> sung = sungBars(state);
        int found = NONE;
        for (int tempo = 240; tempo >= 20; tempo--) {
            int end = 0;
            for (int bar : sung) {
                end += 600 * state.beatsAndTempo[bar][0] / tempo;
            }
            found = end <= time ? tempo : found;
        }
        return found;
    }

    int put(long characters) {
        StringBuilder text = new StringBuilder();
        long rest = characters;
        while (rest != 0) {
            text.insert(0, (char) (rest & 255));
            rest >>>= 8;
        }
        if (text.length() == 0 || text.chars().anyMatch(code -> code < 33 || code > 126)) return BAD_VALUE;
        if (pad.length() + text.length() > 80) return TOO_MANY;
        pad += text;
        return pad.length();
    }

    int wipe() {
        int length = pad.length();
        pad = "";
        return length;
    }

    /** A character can stand at its place if some text begins with all up to it. */
    int fault() {
        for (int length = 1; length <= pad.length(); length++) {
            Matcher matcher = TEXT.matcher(pad.substring(0, length));
            if (!matcher.matches() && !matcher.hitEnd()) return length - 1;
        }
        return TEXT.matcher(pad).matches() ? NONE : pad.length();
    }

    int carryOut() {
        if (fault() != NONE) return BAD_TEXT;
        State before = state.copy();
        int done = 0;
        for (String order : pad.split(";")) {
            if (doOrder(order) < 0) break;
            done++;
        }
        pad = "";
        return changed(before, done);
    }

    private int doOrder(String order) {
        char opening = order.charAt(0);
        String[] parts = order.substring(1).split("[-=@+:]");
        int[] n = new int[3];
        for (int part = 0; part < parts.length; part++) {
            n[part] = Integer.parseInt(parts[part]);
        }
        switch (opening) {
            case 'b': return doBar(n[0], n[1], n[2]);
            case 'r': return doRepeat(n[0], n[1]);
            case 'x': return doCut(n[0], n[1]);
            case '-': return doDrop(n[0]);
            default: return doTitle("len".indexOf(opening), n[0], n[1], n[2]);
        }
    }

    int undo() {
        if (history.isEmpty()) return NOT_POSSIBLE;
        state = history.remove(history.size() - 1);
        return history.size();
    }

    int save(int slot) {
        if (slot < 0 || slot > 1) return BAD_VALUE;
        slots[slot] = state.copy();
        return state.titles.size();
    }

    int restore(int slot) {
        if (slot < 0 || slot > 1) return BAD_VALUE;
        if (slots[slot] == null) return NOT_POSSIBLE;
        changed(state.copy(), 0);
        state = slots[slot].copy();
        return state.titles.size();
    }
}
