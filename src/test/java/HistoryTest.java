/** Promises 23 to 25: undo, save, restore. */
public final class HistoryTest {
    private static final int BAD_VALUE = TitleCaller.BAD_VALUE, NOT_POSSIBLE = TitleCaller.NOT_POSSIBLE;

    public static void main(String[] args) {
        promise23EachChange();
        promise23WholeState();
        promise23SixStates();
        promise23Errors();
        promise23PadAndSlotsStay();
        promise23UndoThenChange();
        promise24Save();
        promise25Restore();
        promise25WholeState();
        Check.finish("HistoryTest");
    }

    private static void promise23EachChange() {
        TitleCaller x = new TitleCaller();
        Check.due("23 nothing to undo", x.undo(), NOT_POSSIBLE);
        x.title(0, 3, 4, 5);
        x.blackout(2, 3);
        x.cut(5, 6);
        x.repeat(8, 9);
        x.shortest(7);
        x.bars(20);
        Check.due("23 bars", x.undo(), 5);
        Check.due("23 BARS", x.count(0), 32);
        Check.due("23 shortest", x.undo(), 4);
        Check.due("23 SHORT", x.count(5), 10);
        Check.due("23 repeat", x.undo(), 3);
        Check.due("23 bar 8", x.ofBar(8, 3), 1);
        Check.due("23 cut", x.undo(), 2);
        Check.due("23 bar 6", x.ofBar(6, 3), 1);
        Check.due("23 blackout", x.undo(), 1);
        Check.due("23 place 2", x.sung(2, 2), 0);
        Check.due("23 the title is there", x.count(8), 1);
        Check.due("23 title", x.undo(), 0);
        Check.due("23 titles", x.count(4), 0);
        Check.due("23 showings", x.count(8), 0);
        Check.due("23 no more", x.undo(), NOT_POSSIBLE);
        x.title(0, 3, 4, 5);
        x.bar(3, 2, 200);
        x.drop(0);
        Check.due("23 drop", x.undo(), 2);
        Check.due("23 letters again", x.ofTitle(0, 3), 5);
        Check.due("23 bar", x.undo(), 1);
        Check.due("23 beats again", x.ofBar(3, 0), 4);
        Check.due("23 tempo again", x.ofBar(3, 1), 60);
    }

    private static final int KINDS_OF_CHANGES = 12;

    // More changes than the history holds, so that no state of it holds by chance what is due.
    private static TitleCaller richScore() {
        TitleCaller x = new TitleCaller();
        x.bars(9);
        x.shortest(8);
        x.bar(3, 5, 77);
        x.repeat(1, 2);
        x.repeat(4, 4);
        x.cut(6, 6);
        x.cut(2, 2);
        x.blackout(3, 3);
        x.blackout(5, 5);
        x.title(0, 1, 2, 11);
        x.title(1, 4, 3, 12);
        x.title(2, 8, 4, 13);
        x.title(1, 5, 1, 14);
        x.save(1);
        return x;
    }

    private static int change(TitleCaller x, int sort) {
        switch (sort) {
            case 0: return x.bars(12);
            case 1: return x.shortest(40);
            case 2: return x.bar(3, 7, 50);
            case 3: return x.repeat(5, 6);
            case 4: return x.cut(8, 8);
            case 5: return x.blackout(0, 1);
            case 6: return x.undoSpan(0, 0);
            case 7: return x.undoSpan(1, 0);
            case 8: return x.undoSpan(2, 0);
            case 9: return x.title(0, 7, 1, 15);
            case 10: return x.drop(0);
            default:
                Check.write(x, "-1;x3-4;b0=1@99;l1+1:7");
                return x.carryOut();
        }
    }

    /** One number out of all that a score of few bars and titles tells. */
    private static long toldBy(TitleCaller x) {
        long told = 0;
        for (int what = 0; what < 13; what++) {
            told = 31 * told + x.count(what);
        }
        for (int bar = 0; bar < 9; bar++) {
            for (int what = 0; what < 6; what++) {
                told = 31 * told + x.ofBar(bar, what);
            }
        }
        for (int place = 0; place < 10; place++) {
            told = 31 * (31 * told + x.sung(place, 0)) + x.sung(place, 2);
        }
        for (int title = 0; title < 5; title++) {
            for (int what = 0; what < 7; what++) {
                told = 31 * told + x.ofTitle(title, what);
            }
        }
        return told;
    }

    private static void promise23WholeState() {
        for (int sort = 0; sort < KINDS_OF_CHANGES; sort++) {
            TitleCaller x = richScore();
            long before = toldBy(x);
            Check.holds("23 change " + sort + " is possible", change(x, sort) >= 0);
            Check.holds("23 change " + sort + " is seen", toldBy(x) != before);
            Check.due("23 undo of change " + sort, x.undo(), 5);
            Check.due("23 all is as before change " + sort, toldBy(x), before);
        }
    }

    private static void promise25WholeState() {
        for (int sort = 0; sort < KINDS_OF_CHANGES; sort++) {
            TitleCaller x = richScore();
            long before = toldBy(x);
            change(x, sort);
            long after = toldBy(x);
            Check.due("25 restore ahead of change " + sort, x.restore(1), 4);
            Check.due("25 all is as ahead of change " + sort, toldBy(x), before);
            Check.due("25 undo of restore", x.undo(), 5);
            Check.due("25 all is as behind change " + sort, toldBy(x), after);
        }
    }

    private static void promise23SixStates() {
        TitleCaller x = new TitleCaller();
        for (int tenths = 20; tenths < 40; tenths++) {
            x.shortest(tenths);
            Check.due("23 recorded", x.count(14), Math.min(6, tenths - 19));
        }
        for (int left = 5; left >= 0; left--) {
            Check.due("23 undo", x.undo(), left);
            Check.due("23 SHORT", x.count(5), 33 + left);
        }
        Check.due("23 the oldest are gone", x.undo(), NOT_POSSIBLE);
        Check.due("23 SHORT stays", x.count(5), 33);
        x.shortest(33);
        Check.due("23 recorded though nothing is different", x.count(14), 1);
    }

    private static void promise23Errors() {
        TitleCaller x = new TitleCaller();
        x.shortest(1);
        x.bars(0);
        x.shortest(-1);
        x.bar(0, 0, 0);
        x.repeat(1, 0);
        x.cut(1, 0);
        x.blackout(1, 0);
        x.undoSpan(0, 0);
        x.title(0, 0, 0, 0);
        x.drop(0);
        x.carryOut();
        x.restore(0);
        x.restore(2);
        x.save(2);
        x.put(0);
        Check.due("23 errors record nothing", x.count(14), 1);
        x.save(0);
        x.put('x');
        x.wipe();
        x.cutIf(0, 0, 0);
        x.slowest(9);
        Check.due("23 nor does what is no change", x.count(14), 1);
        Check.due("23 undo", x.undo(), 0);
        Check.due("23 SHORT", x.count(5), 10);
    }

    private static void promise23PadAndSlotsStay() {
        TitleCaller x = new TitleCaller();
        x.shortest(11);
        x.put(Check.pack("x1-2"));
        x.save(1);
        x.shortest(12);
        x.undo();
        x.undo();
        Check.due("23 the pad stays", x.count(13), 4);
        Check.due("23 the slot stays", x.restore(1), 0);
        Check.due("23 as it was saved", x.count(5), 11);
        Check.due("23 restore is undone", x.undo(), 0);
        Check.due("23 SHORT", x.count(5), 10);
        Check.due("23 the pad is carried out", x.carryOut(), 1);
        Check.due("23 carryOut is undone", x.undo(), 0);
        Check.due("23 cuts", x.count(2), 0);
        Check.due("23 the pad does not come again", x.count(13), 0);
    }

    private static void promise23UndoThenChange() {
        TitleCaller x = new TitleCaller();
        for (int tenths = 1; tenths <= 9; tenths++) {
            x.shortest(tenths);
        }
        x.undo();
        x.undo();
        x.shortest(20);
        Check.due("23 on from there", x.count(14), 5);
        x.shortest(21);
        x.shortest(22);
        int[] before = {21, 20, 7, 6, 5, 4};
        for (int index = 0; index < before.length; index++) {
            Check.due("23 undo", x.undo(), 5 - index);
            Check.due("23 SHORT", x.count(5), before[index]);
        }
    }

    private static void promise24Save() {
        TitleCaller x = new TitleCaller();
        int[] bad = {-1, 2, Integer.MIN_VALUE, Integer.MAX_VALUE};
        for (int slot : bad) {
            Check.due("24 save(" + slot + ")", x.save(slot), BAD_VALUE);
        }
        Check.due("24 without titles", x.save(0), 0);
        x.title(0, 1, 1, 1);
        x.title(0, 2, 1, 1);
        Check.due("24 titles", x.save(1), 2);
        Check.due("24 is no change", x.count(14), 2);
        x.drop(0);
        Check.due("24 slot 0 of its own", x.restore(0), 0);
        Check.due("24 slot 1 of its own", x.restore(1), 2);
        x.drop(1);
        Check.due("24 overwrites", x.save(1), 1);
        x.drop(0);
        Check.due("24 what was saved last", x.restore(1), 1);
    }

    private static void promise25Restore() {
        TitleCaller x = new TitleCaller();
        int[] bad = {-1, 2, Integer.MIN_VALUE, Integer.MAX_VALUE};
        for (int slot : bad) {
            Check.due("25 restore(" + slot + ")", x.restore(slot), BAD_VALUE);
        }
        Check.due("25 nothing saved in 0", x.restore(0), NOT_POSSIBLE);
        Check.due("25 nothing saved in 1", x.restore(1), NOT_POSSIBLE);
        x.bars(40);
        x.shortest(3);
        x.bar(35, 6, 30);
        x.repeat(1, 2);
        x.cut(4, 5);
        x.blackout(7, 8);
        x.title(2, 9, 3, 44);
        x.save(0);
        Check.due("25 only slot 0", x.restore(1), NOT_POSSIBLE);
        x.put(Check.pack("-0"));
        x.carryOut();
        x.undoSpan(0, 0);
        x.undoSpan(1, 0);
        x.undoSpan(2, 0);
        x.shortest(4);
        x.bar(35, 1, 60);
        x.bars(1);
        x.put(Check.pack("abc"));
        Check.due("25 restore", x.restore(0), 1);
        int[] counts = {40, 1, 1, 1, 1, 3};
        for (int what = 0; what < counts.length; what++) {
            Check.due("25 count(" + what + ")", x.count(what), counts[what]);
        }
        Check.due("25 bar", x.ofBar(35, 2), 120);
        Check.due("25 repeat", x.ofBar(2, 3), 2);
        Check.due("25 cut", x.ofBar(4, 5), 1);
        Check.due("25 blackout", x.sung(7, 2), 1);
        Check.due("25 letters", x.ofTitle(0, 3), 44);
        Check.due("25 the pad stays", x.count(13), 3);
        Check.due("25 is a change", x.undo(), 5);
        Check.due("25 undone", x.count(0), 1);
        Check.due("25 the slot keeps it", x.restore(0), 1);
        Check.due("25 again", x.count(0), 40);
        x.drop(0);
        Check.due("25 is no part of what goes on", x.restore(0), 1);
    }
}
