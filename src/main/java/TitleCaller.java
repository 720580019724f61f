/** The caller of surtitles at the opera. What each call promises stands in shared/DOC.md. */
public final class TitleCaller {
    public static final int NO_SUCH = -1, BAD_VALUE = -2, BAD_TEXT = -3, TOO_MANY = -4, NOT_POSSIBLE = -5, NONE = -6;
    public static final int LINE = 0, EACH = 1, NOTE = 2;

    private static final int MAX_BARS = 60;
    private static final int MAX_BEATS = 12;
    private static final int MIN_TEMPO = 20;
    private static final int MAX_TEMPO = 240;
    private static final int MAX_SHORT = 50;
    private static final int MAX_REPEATS = 4;
    private static final int MAX_CUTS = 4;
    private static final int MAX_BLACKOUTS = 3;
    private static final int LAST_BLACK_PLACE = 199;
    private static final int MAX_TITLES = 20;
    private static final int MAX_TITLE_BARS = 20;
    private static final int MAX_LETTERS = 80;
    // Repeats have no bar in common, so no bar is sung more than twice.
    private static final int MAX_PLACES = 2 * MAX_BARS;
    private static final int MAX_SHOWINGS = 2 * MAX_TITLES;
    private static final int NO_TIME_TO_READ = 999;
    private static final int PAD_LENGTH = 80;
    private static final int MAX_CHARACTERS = 8;
    private static final int MAX_HISTORY = 6;
    private static final int SLOTS = 2;

    private static final int SHOWS = 0, BLACKED_OUT = 1, TOO_SHORT = 2;

    private final Score score;
    private final Night night;
    private final Score triedScore;
    private final Night triedNight;
    private final Pad pad;
    private final Reader reader;
    private final History history;
    private final Score[] slots;
    private final boolean[] saved;

    public TitleCaller() {
        score = new Score();
        night = new Night();
        triedScore = new Score();
        triedNight = new Night();
        pad = new Pad();
        reader = new Reader();
        history = new History();
        slots = new Score[SLOTS];
        for (int slot = 0; slot < SLOTS; slot++) {
            slots[slot] = new Score();
        }
        saved = new boolean[SLOTS];
        night.workOut(score);
    }

    public int bars(int bars) {
        history.prepare(score);
        return settle(score.changeBars(bars));
    }

    public int shortest(int tenths) {
        history.prepare(score);
        return settle(score.changeShortest(tenths));
    }

    public int bar(int bar, int beats, int tempo) {
        history.prepare(score);
        return settle(score.changeBar(bar, beats, tempo));
    }

    public int repeat(int first, int last) {
        history.prepare(score);
        return settle(score.addRepeat(first, last));
    }

    public int cut(int first, int last) {
        history.prepare(score);
        return settle(score.addCut(first, last));
    }

    public int blackout(int first, int last) {
        history.prepare(score);
        return settle(score.addBlackout(first, last));
    }

    public int undoSpan(int what, int number) {
        history.prepare(score);
        return settle(score.removeSpan(what, number));
    }

    public int title(int kind, int bar, int bars, int letters) {
        history.prepare(score);
        return settle(score.addTitle(kind, bar, bars, letters));
    }

    public int drop(int title) {
        history.prepare(score);
        return settle(score.removeTitle(title));
    }

    public int ofBar(int bar, int what) {
        if (!score.hasBar(bar)) {
            return NO_SUCH;
        }
        switch (what) {
            case 0: return score.beats[bar];
            case 1: return score.tempo[bar];
            case 2: return score.tenthsOf(bar);
            case 3: return night.timesSung[bar];
            case 4: return night.firstPlace[bar];
            case 5: return score.cuts.covers(bar) ? 1 : 0;
            default: return BAD_VALUE;
        }
    }

    public int sung(int place, int what) {
        if (!night.hasPlace(place)) {
            return NO_SUCH;
        }
        switch (what) {
            case 0: return night.barAt[place];
            case 1: return night.beginAt[place];
            case 2: return score.blackouts.covers(place) ? 1 : 0;
            default: return BAD_VALUE;
        }
    }

    public int ofTitle(int title, int what) {
        if (!score.titles.has(title)) {
            return NO_SUCH;
        }
        switch (what) {
            case 0: return score.titles.kind[title];
            case 1: return score.titles.bar[title];
            case 2: return score.titles.length[title];
            case 3: return score.titles.letters[title];
            case 4: return night.showings.countOf(title);
            case 5: return night.showings.countShownOf(title);
            case 6: return night.showings.tenthsOf(title);
            default: return BAD_VALUE;
        }
    }

    public int showing(int showing, int what) {
        Showings all = night.showings;
        if (!all.has(showing)) {
            return NO_SUCH;
        }
        switch (what) {
            case 0: return all.title[showing];
            case 1: return all.place[showing];
            case 2: return all.from[showing];
            case 3: return all.until[showing];
            case 4: return all.reason[showing];
            case 5: return all.shows(showing) ? all.begin[showing] : NONE;
            case 6: return all.shows(showing) ? all.end[showing] : NONE;
            case 7: return readingPace(showing);
            default: return BAD_VALUE;
        }
    }

    public int at(int time) {
        if (time < 0) {
            return BAD_VALUE;
        }
        return night.showings.titleAt(time);
    }

    public int count(int what) {
        switch (what) {
            case 0: return score.barCount;
            case 1: return score.repeats.size;
            case 2: return score.cuts.size;
            case 3: return score.blackouts.size;
            case 4: return score.titles.size;
            case 5: return score.shortest;
            case 6: return night.places;
            case 7: return night.end;
            case 8: return night.showings.size;
            case 9: return night.showings.countWith(SHOWS);
            case 10: return night.showings.countWith(BLACKED_OUT);
            case 11: return night.showings.countWith(TOO_SHORT);
            case 12: return night.showings.tenthsOfAll();
            case 13: return pad.length;
            case 14: return history.size;
            default: return BAD_VALUE;
        }
    }

    public int cutIf(int first, int last, int what) {
        int error = score.spanError(first, last);
        if (error < 0) {
            return error;
        }
        if (what != 0 && what != 1) {
            return BAD_VALUE;
        }
        triedScore.copyFrom(score);
        int number = triedScore.addCut(first, last);
        if (number < 0) {
            return number;
        }
        triedNight.workOut(triedScore);
        return what == 0 ? night.end - triedNight.end : titlesLost();
    }

    public int slowest(int time) {
        if (time < 0) {
            return BAD_VALUE;
        }
        // A higher tempo never makes the night longer, so halving steps find the highest one that is too slow.
        int tooSlow = MIN_TEMPO - 1;
        for (int step = 128; step > 0; step /= 2) {
            if (tooSlow + step <= MAX_TEMPO && night.endIfAllAt(score, tooSlow + step) > time) {
                tooSlow += step;
            }
        }
        return tooSlow >= MAX_TEMPO ? NONE : tooSlow + 1;
    }

    public int put(long characters) {
        return pad.append(characters);
    }

    public int wipe() {
        int length = pad.length;
        pad.length = 0;
        return length;
    }

    public int fault() {
        return reader.faultOf(pad);
    }

    public int carryOut() {
        if (reader.faultOf(pad) != NONE) {
            return BAD_TEXT;
        }
        history.prepare(score);
        int carriedOut = carryOutOrders();
        pad.length = 0;
        return settle(carriedOut);
    }

    public int undo() {
        Score before = history.takeLatest();
        if (before == null) {
            return NOT_POSSIBLE;
        }
        score.copyFrom(before);
        night.workOut(score);
        return history.size;
    }

    public int save(int slot) {
        Score target = slotAt(slot);
        if (target == null) {
            return BAD_VALUE;
        }
        target.copyFrom(score);
        saved[slot] = true;
        return score.titles.size;
    }

    public int restore(int slot) {
        Score source = slotAt(slot);
        if (source == null) {
            return BAD_VALUE;
        }
        if (!saved[slot]) {
            return NOT_POSSIBLE;
        }
        history.prepare(score);
        score.copyFrom(source);
        return settle(score.titles.size);
    }

    /** Ends a change: one that answers an error has changed nothing and is not recorded. */
    private int settle(int answer) {
        if (answer >= 0) {
            history.record();
            night.workOut(score);
        }
        return answer;
    }

    private Score slotAt(int slot) {
        return slot >= 0 && slot < SLOTS ? slots[slot] : null;
    }

    private int readingPace(int showing) {
        Showings all = night.showings;
        if (!all.shows(showing)) {
            return NONE;
        }
        int tenths = all.end[showing] - all.begin[showing];
        if (tenths <= 0) {
            return NO_TIME_TO_READ;
        }
        return score.titles.letters[all.title[showing]] * 10 / tenths;
    }

    private int titlesLost() {
        int lost = 0;
        for (int title = 0; title < score.titles.size; title++) {
            if (night.showings.countShownOf(title) > 0 && triedNight.showings.countShownOf(title) == 0) {
                lost |= 1 << title;
            }
        }
        return lost;
    }

    private int carryOutOrders() {
        int carriedOut = 0;
        reader.start();
        for (int index = 0; index <= pad.length; index++) {
            // The end of the text ends its last order as a ";" would.
            int code = index < pad.length ? pad.codes[index] : Reader.ORDER_END;
            if (code == Reader.ORDER_END) {
                if (carryOutOrder() < 0) {
                    return carriedOut;
                }
                carriedOut++;
            }
            reader.take(code);
        }
        return carriedOut;
    }

    private int carryOutOrder() {
        int[] numbers = reader.numbers;
        switch (reader.opening) {
            case 'b': return score.changeBar(numbers[0], numbers[1], numbers[2]);
            case 'r': return score.addRepeat(numbers[0], numbers[1]);
            case 'x': return score.addCut(numbers[0], numbers[1]);
            case 'l': return score.addTitle(LINE, numbers[0], numbers[1], numbers[2]);
            case 'e': return score.addTitle(EACH, numbers[0], numbers[1], numbers[2]);
            case 'n': return score.addTitle(NOTE, numbers[0], numbers[1], numbers[2]);
            case '-': return score.removeTitle(numbers[0]);
            default: return BAD_TEXT;
        }
    }

    private static boolean isWithin(int number, int lowest, int highest) {
        return number >= lowest && number <= highest;
    }

    private static int tenthsFor(int beats, int tempo) {
        return tempo <= 0 ? 0 : 600 * beats / tempo;
    }

    private static int leadOf(int kind) {
        switch (kind) {
            case LINE: return 5;
            case NOTE: return 20;
            default: return 0;
        }
    }

    /** Repeats, cuts or blackouts: rows of a first and a last number, in the order in which they came. */
    private static final class Spans {
        final int[] first;
        final int[] last;
        int size;

        Spans(int limit) {
            first = new int[limit];
            last = new int[limit];
        }

        void copyFrom(Spans other) {
            int limit = Math.min(first.length, other.first.length);
            size = Math.min(other.size, limit);
            System.arraycopy(other.first, 0, first, 0, limit);
            System.arraycopy(other.last, 0, last, 0, limit);
        }

        boolean isFull() {
            return size >= first.length;
        }

        int add(int from, int to) {
            if (isFull()) {
                return TOO_MANY;
            }
            first[size] = from;
            last[size] = to;
            size++;
            return size - 1;
        }

        int remove(int number) {
            if (number < 0 || number >= size) {
                return NO_SUCH;
            }
            for (int next = number + 1; next < size; next++) {
                first[next - 1] = first[next];
                last[next - 1] = last[next];
            }
            size--;
            return size;
        }

        boolean meets(int from, int to) {
            for (int number = 0; number < size; number++) {
                if (first[number] <= to && from <= last[number]) {
                    return true;
                }
            }
            return false;
        }

        boolean covers(int place) {
            return meets(place, place);
        }

        int highest() {
            int highest = -1;
            for (int number = 0; number < size; number++) {
                highest = Math.max(highest, last[number]);
            }
            return highest;
        }

        /** The first bar of the span that ends with a bar, or the bar behind it if none does. */
        int backFrom(int bar) {
            for (int number = 0; number < size; number++) {
                if (last[number] == bar) {
                    return first[number];
                }
            }
            return bar + 1;
        }
    }

    /** The titles, in the order in which they came. */
    private static final class Titles {
        final int[] kind;
        final int[] bar;
        final int[] length;
        final int[] letters;
        int size;

        Titles() {
            kind = new int[MAX_TITLES];
            bar = new int[MAX_TITLES];
            length = new int[MAX_TITLES];
            letters = new int[MAX_TITLES];
        }

        void copyFrom(Titles other) {
            size = other.size;
            System.arraycopy(other.kind, 0, kind, 0, MAX_TITLES);
            System.arraycopy(other.bar, 0, bar, 0, MAX_TITLES);
            System.arraycopy(other.length, 0, length, 0, MAX_TITLES);
            System.arraycopy(other.letters, 0, letters, 0, MAX_TITLES);
        }

        boolean has(int number) {
            return number >= 0 && number < size;
        }

        int add(int newKind, int newBar, int newLength, int newLetters) {
            if (size >= MAX_TITLES) {
                return TOO_MANY;
            }
            kind[size] = newKind;
            bar[size] = newBar;
            length[size] = newLength;
            letters[size] = newLetters;
            size++;
            return size - 1;
        }

        int remove(int number) {
            if (!has(number)) {
                return NO_SUCH;
            }
            for (int next = number + 1; next < size; next++) {
                kind[next - 1] = kind[next];
                bar[next - 1] = bar[next];
                length[next - 1] = length[next];
                letters[next - 1] = letters[next];
            }
            size--;
            return size;
        }

        int highestBar() {
            int highest = -1;
            for (int number = 0; number < size; number++) {
                highest = Math.max(highest, bar[number]);
            }
            return highest;
        }
    }

    /** All that undo, save and restore keep. Its changes answer as the calls do, and record nothing. */
    private static final class Score {
        int barCount;
        int shortest;
        final int[] beats;
        final int[] tempo;
        final Spans repeats;
        final Spans cuts;
        final Spans blackouts;
        final Titles titles;

        Score() {
            barCount = 32;
            shortest = 10;
            beats = new int[MAX_BARS];
            tempo = new int[MAX_BARS];
            for (int bar = 0; bar < MAX_BARS; bar++) {
                beats[bar] = 4;
                tempo[bar] = 60;
            }
            repeats = new Spans(MAX_REPEATS);
            cuts = new Spans(MAX_CUTS);
            blackouts = new Spans(MAX_BLACKOUTS);
            titles = new Titles();
        }

        void copyFrom(Score other) {
            barCount = other.barCount;
            shortest = other.shortest;
            System.arraycopy(other.beats, 0, beats, 0, MAX_BARS);
            System.arraycopy(other.tempo, 0, tempo, 0, MAX_BARS);
            repeats.copyFrom(other.repeats);
            cuts.copyFrom(other.cuts);
            blackouts.copyFrom(other.blackouts);
            titles.copyFrom(other.titles);
        }

        boolean hasBar(int bar) {
            return bar >= 0 && bar < barCount;
        }

        int tenthsOf(int bar) {
            return hasBar(bar) ? tenthsFor(beats[bar], tempo[bar]) : 0;
        }

        /** NO_SUCH or BAD_VALUE if a span cannot go from one bar to another, else 0. */
        int spanError(int first, int last) {
            if (!hasBar(first) || !hasBar(last)) {
                return NO_SUCH;
            }
            return last < first ? BAD_VALUE : 0;
        }

        int changeBars(int number) {
            if (!isWithin(number, 1, MAX_BARS)) {
                return BAD_VALUE;
            }
            if (highestBarInUse() >= number) {
                return NOT_POSSIBLE;
            }
            int previous = barCount;
            barCount = number;
            return previous;
        }

        int changeShortest(int tenths) {
            if (!isWithin(tenths, 0, MAX_SHORT)) {
                return BAD_VALUE;
            }
            int previous = shortest;
            shortest = tenths;
            return previous;
        }

        int changeBar(int bar, int newBeats, int newTempo) {
            if (!hasBar(bar)) {
                return NO_SUCH;
            }
            if (!isWithin(newBeats, 1, MAX_BEATS) || !isWithin(newTempo, MIN_TEMPO, MAX_TEMPO)) {
                return BAD_VALUE;
            }
            beats[bar] = newBeats;
            tempo[bar] = newTempo;
            return tenthsOf(bar);
        }

        int addRepeat(int first, int last) {
            int error = spanError(first, last);
            if (error < 0) {
                return error;
            }
            if (repeats.isFull()) {
                return TOO_MANY;
            }
            return repeats.meets(first, last) ? NOT_POSSIBLE : repeats.add(first, last);
        }

        int addCut(int first, int last) {
            int error = spanError(first, last);
            return error < 0 ? error : cuts.add(first, last);
        }

        int addBlackout(int first, int last) {
            if (first < 0 || last < first || last > LAST_BLACK_PLACE) {
                return BAD_VALUE;
            }
            return blackouts.add(first, last);
        }

        int removeSpan(int what, int number) {
            switch (what) {
                case 0: return repeats.remove(number);
                case 1: return cuts.remove(number);
                case 2: return blackouts.remove(number);
                default: return BAD_VALUE;
            }
        }

        int addTitle(int kind, int bar, int length, int letters) {
            if (!hasBar(bar)) {
                return NO_SUCH;
            }
            boolean fits = isWithin(kind, LINE, NOTE) && isWithin(length, 1, MAX_TITLE_BARS)
                    && isWithin(letters, 1, MAX_LETTERS);
            return fits ? titles.add(kind, bar, length, letters) : BAD_VALUE;
        }

        int removeTitle(int title) {
            return titles.remove(title);
        }

        private int highestBarInUse() {
            return Math.max(titles.highestBar(), Math.max(repeats.highest(), cuts.highest()));
        }
    }

    /** What a score gives: the sung bars with their times, and the showings. */
    private static final class Night {
        final int[] barAt;
        final int[] beginAt;
        final int[] timesSung;
        final int[] firstPlace;
        final int[] lastPlace;
        final Showings showings;
        int places;
        int end;

        Night() {
            barAt = new int[MAX_PLACES];
            beginAt = new int[MAX_PLACES];
            timesSung = new int[MAX_BARS];
            firstPlace = new int[MAX_BARS];
            lastPlace = new int[MAX_BARS];
            showings = new Showings();
        }

        void workOut(Score score) {
            singAll(score);
            gatherShowings(score.titles);
            lookAtShowings(score);
        }

        boolean hasPlace(int place) {
            return place >= 0 && place < places;
        }

        int endIfAllAt(Score score, int tempo) {
            int tenths = 0;
            for (int bar = 0; bar < score.barCount; bar++) {
                tenths += timesSung[bar] * tenthsFor(score.beats[bar], tempo);
            }
            return tenths;
        }

        private void singAll(Score score) {
            places = 0;
            end = 0;
            for (int bar = 0; bar < MAX_BARS; bar++) {
                timesSung[bar] = 0;
                firstPlace[bar] = NONE;
                lastPlace[bar] = NONE;
            }
            for (int bar = 0; bar < score.barCount; bar++) {
                singBar(score, bar);
                for (int again = score.repeats.backFrom(bar); again <= bar; again++) {
                    singBar(score, again);
                }
            }
        }

        private void singBar(Score score, int bar) {
            if (!score.hasBar(bar) || places >= MAX_PLACES || score.cuts.covers(bar)) {
                return;
            }
            if (timesSung[bar] == 0) {
                firstPlace[bar] = places;
            }
            timesSung[bar]++;
            lastPlace[bar] = places;
            barAt[places] = bar;
            beginAt[places] = end;
            places++;
            end += score.tenthsOf(bar);
        }

        private void gatherShowings(Titles titles) {
            showings.size = 0;
            for (int place = 0; place < places; place++) {
                for (int title = 0; title < titles.size; title++) {
                    if (comesWith(titles.kind[title], titles.bar[title], place)) {
                        int from = Math.max(0, beginAt[place] - leadOf(titles.kind[title]));
                        showings.add(title, place, from, beginOrEnd(place + titles.length[title]));
                    }
                }
            }
        }

        private boolean comesWith(int kind, int bar, int place) {
            if (barAt[place] != bar) {
                return false;
            }
            switch (kind) {
                case LINE: return firstPlace[bar] == place;
                case NOTE: return lastPlace[bar] == place;
                default: return true;
            }
        }

        private void lookAtShowings(Score score) {
            int ahead = NONE;
            for (int showing = 0; showing < showings.size; showing++) {
                if (isBlackAt(score.blackouts, showings.from[showing])) {
                    showings.reason[showing] = BLACKED_OUT;
                } else {
                    boolean waits = score.titles.kind[showings.title[showing]] != EACH;
                    showings.lookAt(showing, ahead, waits, score.shortest);
                }
                if (showings.shows(showing)) {
                    ahead = showing;
                }
            }
        }

        private boolean isBlackAt(Spans blackouts, int time) {
            for (int number = 0; number < blackouts.size; number++) {
                int first = blackouts.first[number];
                if (hasPlace(first) && time >= beginAt[first] && time < beginOrEnd(blackouts.last[number] + 1)) {
                    return true;
                }
            }
            return false;
        }

        private int beginOrEnd(int place) {
            return hasPlace(place) ? beginAt[place] : end;
        }
    }

    /** The titles that come in a night, in the order in which they are looked at. */
    private static final class Showings {
        final int[] title;
        final int[] place;
        final int[] from;
        final int[] until;
        final int[] reason;
        final int[] begin;
        final int[] end;
        int size;

        Showings() {
            title = new int[MAX_SHOWINGS];
            place = new int[MAX_SHOWINGS];
            from = new int[MAX_SHOWINGS];
            until = new int[MAX_SHOWINGS];
            reason = new int[MAX_SHOWINGS];
            begin = new int[MAX_SHOWINGS];
            end = new int[MAX_SHOWINGS];
        }

        boolean has(int showing) {
            return showing >= 0 && showing < size;
        }

        boolean shows(int showing) {
            return has(showing) && reason[showing] == SHOWS;
        }

        void add(int newTitle, int newPlace, int newFrom, int newUntil) {
            if (size >= MAX_SHOWINGS) {
                return;
            }
            title[size] = newTitle;
            place[size] = newPlace;
            from[size] = newFrom;
            until[size] = newUntil;
            size++;
        }

        /** Looks at a showing, with the one ahead of it that shows (NONE if there is none). */
        void lookAt(int showing, int ahead, boolean waits, int shortest) {
            int beginning = from[showing];
            if (has(ahead)) {
                beginning = Math.max(beginning, waits ? end[ahead] : begin[ahead]);
            }
            int ending = Math.max(beginning, until[showing]);
            if (ending - beginning < shortest) {
                reason[showing] = TOO_SHORT;
                return;
            }
            if (has(ahead)) {
                end[ahead] = Math.min(end[ahead], beginning);
            }
            reason[showing] = SHOWS;
            begin[showing] = beginning;
            end[showing] = ending;
        }

        int titleAt(int time) {
            for (int showing = 0; showing < size; showing++) {
                if (reason[showing] == SHOWS && begin[showing] <= time && time < end[showing]) {
                    return title[showing];
                }
            }
            return NONE;
        }

        int countWith(int wantedReason) {
            int count = 0;
            for (int showing = 0; showing < size; showing++) {
                if (reason[showing] == wantedReason) {
                    count++;
                }
            }
            return count;
        }

        int countOf(int wantedTitle) {
            int count = 0;
            for (int showing = 0; showing < size; showing++) {
                if (title[showing] == wantedTitle) {
                    count++;
                }
            }
            return count;
        }

        int countShownOf(int wantedTitle) {
            int count = 0;
            for (int showing = 0; showing < size; showing++) {
                if (title[showing] == wantedTitle && reason[showing] == SHOWS) {
                    count++;
                }
            }
            return count;
        }

        int tenthsOf(int wantedTitle) {
            int tenths = 0;
            for (int showing = 0; showing < size; showing++) {
                if (title[showing] == wantedTitle) {
                    tenths += shownTenths(showing);
                }
            }
            return tenths;
        }

        // No two showings show at once: each begins at the end of the one ahead of it or later.
        int tenthsOfAll() {
            int tenths = 0;
            for (int showing = 0; showing < size; showing++) {
                tenths += shownTenths(showing);
            }
            return tenths;
        }

        private int shownTenths(int showing) {
            return shows(showing) ? end[showing] - begin[showing] : 0;
        }
    }

    /** The text that the next orders are read from. */
    private static final class Pad {
        final int[] codes;
        int length;

        Pad() {
            codes = new int[PAD_LENGTH];
        }

        int append(long characters) {
            int more = countOf(characters);
            if (more < 1) {
                return BAD_VALUE;
            }
            if (length + more > PAD_LENGTH) {
                return TOO_MANY;
            }
            for (int back = 0; back < more; back++) {
                codes[length + more - 1 - back] = codeAt(characters, back);
            }
            length += more;
            return length;
        }

        /** How many characters a number holds, or 0 if it is not one that holds characters alone. */
        private static int countOf(long characters) {
            int count = 0;
            for (int back = 0; back < MAX_CHARACTERS; back++) {
                int code = codeAt(characters, back);
                if (code == 0) {
                    return characters >>> 8 * back == 0 ? count : 0;
                }
                if (!isWithin(code, 33, 126)) {
                    return 0;
                }
                count++;
            }
            return count;
        }

        private static int codeAt(long characters, int back) {
            return (int) (characters >>> 8 * back & 255);
        }
    }

    /** Reads orders, one character after the other. */
    private static final class Reader {
        static final int ORDER_END = ';';
        static final int NOT_OPENED = 0;

        final int[] numbers;
        int opening;
        int current;
        int digits;

        Reader() {
            numbers = new int[3];
        }

        void start() {
            opening = NOT_OPENED;
            current = 0;
            digits = 0;
            for (int number = 0; number < numbers.length; number++) {
                numbers[number] = 0;
            }
        }

        int faultOf(Pad pad) {
            start();
            for (int index = 0; index < pad.length; index++) {
                if (!take(pad.codes[index])) {
                    return index;
                }
            }
            return canEnd() ? NONE : pad.length;
        }

        /** Takes the next character; answers whether it can stand there. */
        boolean take(int code) {
            if (opening == NOT_OPENED) {
                return open(code);
            }
            return isWithin(code, '0', '9') ? takeDigit(code - '0') : takeSign(code);
        }

        private boolean canEnd() {
            return opening != NOT_OPENED && digits > 0 && signBehindNumber() == ORDER_END;
        }

        private boolean open(int code) {
            switch (code) {
                case 'b': case 'r': case 'x': case 'l': case 'e': case 'n': case '-':
                    opening = code;
                    return true;
                default:
                    return false;
            }
        }

        private boolean takeDigit(int digit) {
            if (current < 0 || current >= numbers.length) {
                return false;
            }
            int number = numbers[current];
            boolean behindLeadingZero = digits > 0 && number == 0;
            if (behindLeadingZero || number > 99) {
                return false;
            }
            numbers[current] = 10 * number + digit;
            digits++;
            return true;
        }

        private boolean takeSign(int code) {
            if (digits == 0 || code != signBehindNumber()) {
                return false;
            }
            if (code == ORDER_END) {
                start();
            } else {
                current++;
                digits = 0;
            }
            return true;
        }

        private int signBehindNumber() {
            switch (opening) {
                case 'b': return current == 0 ? '=' : current == 1 ? '@' : ORDER_END;
                case 'r': case 'x': return current == 0 ? '-' : ORDER_END;
                case '-': return ORDER_END;
                default: return current == 0 ? '+' : current == 1 ? ':' : ORDER_END;
            }
        }
    }

    /** A ring of the latest states, with one row more for the state ahead of a change that may yet fail. */
    private static final class History {
        private static final int ROWS = MAX_HISTORY + 1;

        private final Score[] states;
        private int oldest;
        int size;

        History() {
            states = new Score[ROWS];
            for (int row = 0; row < ROWS; row++) {
                states[row] = new Score();
            }
        }

        void prepare(Score score) {
            Score next = rowAt(size);
            if (next != null) {
                next.copyFrom(score);
            }
        }

        /** Keeps what was prepared. */
        void record() {
            if (size < MAX_HISTORY) {
                size++;
            } else {
                oldest = (oldest + 1) % ROWS;
            }
        }

        /** The state ahead of the latest change, which is forgotten; null if there is none. */
        Score takeLatest() {
            if (size <= 0) {
                return null;
            }
            size--;
            return rowAt(size);
        }

        private Score rowAt(int age) {
            int row = (oldest + age) % ROWS;
            return row >= 0 && row < ROWS ? states[row] : null;
        }
    }
}
