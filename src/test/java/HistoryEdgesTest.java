import java.util.function.ToIntFunction;

/** The edges of promises 23 to 25: a test for each sentence that names one. */
public final class HistoryEdgesTest {
    private static final int BAD_VALUE = TitleCaller.BAD_VALUE, NOT_POSSIBLE = TitleCaller.NOT_POSSIBLE;

    public static void main(String[] args) {
        undoOfNothing();
        undoOfOneToSeven();
        undoWhenTheRowsComeRoundAgain();
        undoDoesNotComeBack();
        changesOfNothingAreRecorded();
        eachChangeIsRecordedOnce();
        restoreDropsTheOldest();
        carryOutDropsTheOldest();
        undoLeavesThePadAsItIs();
        undoLeavesTheSlotsAsTheyAre();
        undoOfBarsThatWereAway();
        slotsThereAre();
        saveOfNoTitleAndOfTwenty();
        saveOverwrites();
        saveIsNoChange();
        restoreOfNothing();
        restoreKeepsTheSlot();
        restoreLeavesThePadAsItIs();
        restoreLeavesTheOtherSlot();
        restoreIsUndone();
        restoreOfTheSame();
        restoreOfBarsThatAreAway();
        asManyCallsAsThereCanBe();
        Check.finish("HistoryEdgesTest");
    }

    private static void undoOfNothing() {
        TitleCaller x = new TitleCaller();
        Check.due("23 no change", x.undo(), NOT_POSSIBLE);
        x.bars(0);
        x.drop(0);
        x.carryOut();
        Check.due("23 refused calls alone", x.undo(), NOT_POSSIBLE);
        x.save(0);
        x.put('x');
        x.wipe();
        Check.due("23 no change but save, put and wipe", x.undo(), NOT_POSSIBLE);
        x.bars(1);
        Check.due("23 one change", x.undo(), 0);
        Check.due("23 no more", x.undo(), NOT_POSSIBLE);
        Check.due("23 nor then", x.undo(), NOT_POSSIBLE);
        Check.due("23 BARS", x.count(0), 32);
    }

    private static void undoOfOneToSeven() {
        for (int changes = 1; changes <= 9; changes++) {
            TitleCaller x = new TitleCaller();
            for (int change = 1; change <= changes; change++) {
                x.shortest(10 + change);
            }
            int kept = Math.min(6, changes);
            Check.due("23 kept of " + changes, x.count(14), kept);
            for (int left = kept - 1; left >= 0; left--) {
                Check.due("23 undo of " + changes, x.undo(), left);
                Check.due("23 SHORT then", x.count(5), 10 + changes - kept + left);
            }
            Check.due("23 no more of " + changes, x.undo(), NOT_POSSIBLE);
            Check.due("23 SHORT stays", x.count(5), 10 + changes - kept);
        }
    }

    private static void undoWhenTheRowsComeRoundAgain() {
        TitleCaller x = new TitleCaller();
        int[] states = new int[200];
        int first = 0;
        int last = 0;
        states[0] = 10;
        for (int step = 1; step <= 120; step++) {
            int undone = step % 7 < 3 ? 0 : step % 5;
            for (int call = 0; call < undone; call++) {
                boolean possible = last > first;
                last -= possible ? 1 : 0;
                Check.due("23 undo at step " + step, x.undo(), possible ? last - first : NOT_POSSIBLE);
                Check.due("23 SHORT at step " + step, x.count(5), states[last]);
            }
            last++;
            states[last] = step % 51;
            first = Math.max(first, last - 6);
            Check.due("23 change at step " + step, x.shortest(step % 51), states[last - 1]);
            Check.due("23 kept at step " + step, x.count(14), last - first);
        }
    }

    private static void undoDoesNotComeBack() {
        TitleCaller x = new TitleCaller();
        x.shortest(11);
        x.shortest(12);
        Check.due("23 undo is not recorded", x.undo(), 1);
        Check.due("23 so the next one goes on", x.undo(), 0);
        Check.due("23 SHORT", x.count(5), 10);
        x.shortest(13);
        Check.due("23 what was undone is gone", x.undo(), 0);
        Check.due("23 SHORT again", x.count(5), 10);
    }

    private static void changesOfNothingAreRecorded() {
        TitleCaller x = new TitleCaller();
        x.bars(32);
        x.shortest(10);
        x.bar(0, 4, 60);
        x.save(0);
        x.restore(0);
        x.put(Check.pack("b0=4@60"));
        x.carryOut();
        Check.due("23 though nothing is different", x.count(14), 5);
        for (int left = 4; left >= 0; left--) {
            Check.due("23 undo of nothing", x.undo(), left);
        }
        Check.same("23 as new", Told.by(x), Told.by(new TitleCaller()));
    }

    private static void eachChangeIsRecordedOnce() {
        recordedOnce("bars", x -> x.bars(40));
        recordedOnce("shortest", x -> x.shortest(0));
        recordedOnce("bar", x -> x.bar(0, 12, 20));
        recordedOnce("repeat", x -> x.repeat(3, 4));
        recordedOnce("cut", x -> x.cut(3, 4));
        recordedOnce("blackout", x -> x.blackout(3, 4));
        for (int what = 0; what < 3; what++) {
            int sort = what;
            recordedOnce("undoSpan", x -> x.undoSpan(sort, 0));
        }
        recordedOnce("title", x -> x.title(0, 0, 1, 1));
        recordedOnce("drop", x -> x.drop(0));
        recordedOnce("carryOut", x -> {
            Check.write(x, "-0;l0+1:1;e0+1:1;x5-5;r20-30;b1=1@200");
            return x.carryOut();
        });
        recordedOnce("restore", x -> x.restore(0));
    }

    private static void recordedOnce(String call, ToIntFunction<TitleCaller> made) {
        TitleCaller x = new TitleCaller();
        x.save(0);
        x.carryOut();
        x.repeat(1, 2);
        x.cut(7, 7);
        x.blackout(9, 9);
        x.title(1, 2, 3, 4);
        int[] before = Told.by(x);
        Check.holds("23 " + call + " is no error", made.applyAsInt(x) >= 0);
        Check.due("23 " + call + " is recorded", x.count(14), 5);
        Check.due("23 " + call + " is undone", x.undo(), 4);
        Check.same("23 as before " + call, Told.by(x), before);
    }

    private static TitleCaller withSixChanges() {
        TitleCaller x = new TitleCaller();
        x.save(0);
        for (int tenths = 21; tenths <= 26; tenths++) {
            x.shortest(tenths);
        }
        return x;
    }

    private static void restoreDropsTheOldest() {
        TitleCaller x = withSixChanges();
        x.restore(0);
        Check.due("23 six are kept behind restore", x.count(14), 6);
        for (int left = 5; left >= 0; left--) {
            Check.due("23 undo behind restore", x.undo(), left);
            Check.due("23 SHORT behind restore", x.count(5), 21 + left);
        }
    }

    private static void carryOutDropsTheOldest() {
        TitleCaller x = withSixChanges();
        Check.write(x, "-0");
        Check.due("23 none is carried out", x.carryOut(), 0);
        Check.due("23 six are kept behind carryOut", x.count(14), 6);
        Check.due("23 undo of carryOut", x.undo(), 5);
        Check.due("23 SHORT as before", x.count(5), 26);
        for (int left = 4; left >= 0; left--) {
            Check.due("23 undo behind it", x.undo(), left);
            Check.due("23 SHORT behind it", x.count(5), 21 + left);
        }
        Check.due("23 the oldest one was dropped", x.undo(), NOT_POSSIBLE);
    }

    private static void undoLeavesThePadAsItIs() {
        TitleCaller x = new TitleCaller();
        x.shortest(11);
        Check.write(x, "x1-1");
        x.shortest(12);
        Check.write(x, ";x2-2");
        x.undo();
        x.undo();
        Check.due("23 the pad is as it is", x.count(13), 9);
        Check.due("23 both orders", x.carryOut(), 2);
        x.undo();
        Check.due("23 an empty pad stays empty", x.count(13), 0);
        Check.due("23 the cuts are undone", x.count(2), 0);
        x.shortest(13);
        Check.write(x, "x3-3");
        x.wipe();
        x.undo();
        Check.due("23 what was wiped stays away", x.count(13), 0);
    }

    private static void undoLeavesTheSlotsAsTheyAre() {
        TitleCaller x = new TitleCaller();
        x.title(0, 0, 1, 1);
        x.save(0);
        x.title(0, 0, 1, 1);
        x.save(1);
        x.undo();
        x.undo();
        Check.due("23 no title", x.count(4), 0);
        Check.due("23 slot 1 is as it was saved", x.restore(1), 2);
        Check.due("23 slot 0 is as it was saved", x.restore(0), 1);
        x.undo();
        Check.due("23 undo of a restore does not empty the slot", x.restore(0), 1);
    }

    private static void undoOfBarsThatWereAway() {
        TitleCaller x = new TitleCaller();
        x.bar(31, 12, 20);
        x.bars(1);
        x.undo();
        Check.due("23 bar 31 is as it was", x.ofBar(31, 2), 360);
        x.undo();
        Check.due("23 as it was at first", x.ofBar(31, 2), 40);
        x.bars(20);
        x.bar(5, 1, 240);
        x.bars(60);
        x.bar(50, 1, 240);
        x.undo();
        x.undo();
        x.bars(60);
        Check.due("23 a bar that was changed while it was there", x.ofBar(50, 2), 40);
        Check.due("23 one that was changed ahead of that", x.ofBar(5, 2), 2);
    }

    private static void slotsThereAre() {
        for (int slot = -2; slot <= 3; slot++) {
            TitleCaller x = new TitleCaller();
            x.title(0, 0, 1, 1);
            boolean there = slot == 0 || slot == 1;
            Check.due("25 restore(" + slot + ") of nothing", x.restore(slot), there ? NOT_POSSIBLE : BAD_VALUE);
            Check.due("24 save(" + slot + ")", x.save(slot), there ? 1 : BAD_VALUE);
            Check.due("25 restore(" + slot + ")", x.restore(slot), there ? 1 : BAD_VALUE);
            Check.due("25 the other slot", x.restore(1 - slot), there ? NOT_POSSIBLE : BAD_VALUE);
        }
    }

    private static void saveOfNoTitleAndOfTwenty() {
        TitleCaller x = new TitleCaller();
        Check.due("24 no title", x.save(0), 0);
        for (int number = 0; number < 20; number++) {
            x.title(number % 3, number, 1 + number, 1 + number);
        }
        Check.due("24 twenty titles", x.save(1), 20);
        int[] before = Told.by(x);
        Check.due("25 no title", x.restore(0), 0);
        Check.due("25 none", x.count(4), 0);
        Check.due("25 twenty titles", x.restore(1), 20);
        Check.same("25 all as they were", Told.by(x), before);
    }

    private static void saveOverwrites() {
        TitleCaller x = new TitleCaller();
        x.title(0, 0, 1, 1);
        x.title(0, 0, 1, 1);
        x.save(0);
        x.drop(0);
        Check.due("24 less than before", x.save(0), 1);
        x.drop(0);
        Check.due("24 what was saved last", x.restore(0), 1);
        Check.due("24 no second title", x.ofTitle(1, 0), TitleCaller.NO_SUCH);
        x.drop(0);
        x.save(0);
        x.title(0, 0, 1, 1);
        Check.due("24 no title was saved last", x.restore(0), 0);
    }

    private static void saveIsNoChange() {
        TitleCaller x = new TitleCaller();
        x.shortest(11);
        for (int call = 0; call < 7; call++) {
            x.save(call % 2);
        }
        Check.due("24 one change", x.count(14), 1);
        Check.due("24 undo of it", x.undo(), 0);
        Check.due("24 SHORT", x.count(5), 10);
        Check.due("24 what was saved is not undone", x.restore(0), 0);
        Check.due("24 SHORT as it was saved", x.count(5), 11);
    }

    private static void restoreOfNothing() {
        TitleCaller x = new TitleCaller();
        Check.due("25 slot 0", x.restore(0), NOT_POSSIBLE);
        Check.due("25 slot 1", x.restore(1), NOT_POSSIBLE);
        Check.due("25 slot -1", x.restore(-1), BAD_VALUE);
        Check.due("25 slot 2", x.restore(2), BAD_VALUE);
        Check.due("25 no change", x.count(14), 0);
        x.save(1);
        Check.due("25 slot 0 all the same", x.restore(0), NOT_POSSIBLE);
        Check.due("25 slot 1 now", x.restore(1), 0);
        Check.due("25 a change", x.count(14), 1);
    }

    private static void restoreKeepsTheSlot() {
        TitleCaller x = new TitleCaller();
        x.title(0, 3, 1, 9);
        x.repeat(1, 2);
        x.save(0);
        int[] saved = Told.by(x);
        for (int call = 0; call < 5; call++) {
            x.bars(40 + call);
            x.bar(3, 1 + call, 60);
            x.undoSpan(0, 0);
            x.drop(0);
            x.cut(call, call);
            x.blackout(call, call);
            Check.due("25 once more", x.restore(0), 1);
            int[] told = Told.by(x);
            told[14] = saved[14];
            Check.same("25 as it was saved", told, saved);
        }
    }

    private static void restoreLeavesThePadAsItIs() {
        TitleCaller x = new TitleCaller();
        Check.write(x, "x1-1");
        x.save(0);
        Check.write(x, ";x2-2;x3-3");
        x.restore(0);
        Check.due("25 the pad is as it is", x.count(13), 14);
        Check.due("25 all orders", x.carryOut(), 3);
        x.restore(0);
        Check.due("25 an empty pad stays empty", x.count(13), 0);
        Check.due("25 the cuts are away", x.count(2), 0);
    }

    private static void restoreLeavesTheOtherSlot() {
        TitleCaller x = new TitleCaller();
        x.save(0);
        x.title(0, 0, 1, 1);
        x.save(1);
        x.title(0, 0, 1, 1);
        Check.due("25 slot 0", x.restore(0), 0);
        Check.due("25 slot 1", x.restore(1), 1);
        Check.due("25 slot 0 again", x.restore(0), 0);
    }

    private static void restoreIsUndone() {
        TitleCaller x = new TitleCaller();
        x.save(0);
        x.title(2, 7, 5, 33);
        x.cut(2, 3);
        int[] before = Told.by(x);
        x.restore(0);
        Check.due("25 three changes", x.count(14), 3);
        Check.due("25 undo", x.undo(), 2);
        Check.same("25 as before", Told.by(x), before);
        Check.due("25 undo of what was ahead", x.undo(), 1);
        Check.due("25 no cut", x.count(2), 0);
    }

    private static void restoreOfTheSame() {
        TitleCaller x = new TitleCaller();
        x.title(2, 7, 5, 33);
        x.save(1);
        Check.due("25 right behind save", x.restore(1), 1);
        Check.due("25 is a change", x.count(14), 2);
        Check.due("25 undo of it", x.undo(), 1);
        Check.due("25 the title stays", x.count(4), 1);
    }

    private static void restoreOfBarsThatAreAway() {
        TitleCaller x = new TitleCaller();
        x.bars(60);
        x.bar(59, 12, 20);
        x.bars(2);
        x.save(0);
        x.bars(60);
        x.bar(59, 1, 240);
        x.restore(0);
        Check.due("25 two bars", x.count(0), 2);
        x.bars(60);
        Check.due("25 the bar that was away is as it was saved", x.ofBar(59, 2), 360);
    }

    private static void asManyCallsAsThereCanBe() {
        TitleCaller x = new TitleCaller();
        for (int call = 0; call < 170; call++) {
            Check.due("as many calls: shortest", x.shortest(call % 51), call == 0 ? 10 : (call - 1) % 51);
            Check.due("as many calls: save", x.save(call % 2), 0);
            Check.due("as many calls: put", x.put('-'), call < 80 ? call + 1 : TitleCaller.TOO_MANY);
        }
        Check.due("the 511th call", x.undo(), 5);
        Check.due("the 512th call", x.count(5), 168 % 51);
    }
}
