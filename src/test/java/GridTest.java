import java.util.function.IntConsumer;

/** Every call with every choice of edges as its arguments, in scores at their edges, against the Model. */
public final class GridTest {
    private static final int LOWEST = Integer.MIN_VALUE, HIGHEST = Integer.MAX_VALUE;
    private static final int[] BARS = {LOWEST, -1, 0, 1, 2, 30, 31, 32, 58, 59, 60, 61, HIGHEST};
    private static final int[] WHATS = {LOWEST, -1, 0, 1, 2, 3, 4, 5, 6, 7, 8, 14, 15, HIGHEST};
    private static final int[] TIMES = {LOWEST, -1, 0, 1, 9, 10, 11, 39, 40, 41, 79, 80, 1279, 1280, 2399, 2400, 7200, 43199, 43200, HIGHEST};
    private static final int CALLS_FOR_AN_OBJECT = 400;

    private static int score;
    private static int calls;
    private static TitleCaller x;
    private static Model model;

    public static void main(String[] args) {
        for (score = 0; score < 6; score++) {
            make();
            oneArgument();
            twoArguments();
            bar();
            cutIf();
            title();
            texts();
            history();
        }
        Check.finish("GridTest");
    }

    private static void make() {
        x = new TitleCaller();
        model = new Model();
        calls = 0;
        switch (score) {
            case 0: break;
            case 1: oneBar(); break;
            case 2: theMost(); break;
            case 3: nothingSung(); break;
            case 4: overlaps(); break;
            default: oneBar(); theMost(); break;
        }
    }

    private static void due(String call, int got, int want) {
        Check.due("score " + score + ": " + call, got, want);
        calls++;
    }

    private static void change(String call, int got, int want) {
        due(call, got, want);
        if (want < 0) {
            return;
        }
        for (int what = 0; what <= 14; what++) {
            due(call + " count(" + what + ")", x.count(what), model.count(what));
        }
        due("undo of " + call, x.undo(), model.undo());
        if (calls > CALLS_FOR_AN_OBJECT) {
            make();
        }
    }

    private static void oneBar() {
        due("bars", x.bars(1), model.bars(1));
        for (int kind = 0; kind < 3; kind++) {
            due("title", x.title(kind, 0, 20, 80), model.title(kind, 0, 20, 80));
        }
        due("blackout", x.blackout(1, 1), model.blackout(1, 1));
    }

    private static void theMost() {
        due("bars", x.bars(60), model.bars(60));
        int[] firsts = {0, 1, 31, 58};
        for (int number = 0; number < 4; number++) {
            int last = number < 3 ? firsts[number + 1] - 1 : 59;
            int first = firsts[number];
            due("repeat", x.repeat(first, last), model.repeat(first, last));
            due("cut", x.cut(30 + number / 2, 31), model.cut(30 + number / 2, 31));
            int place = number * 59;
            due("blackout", x.blackout(place, place + 1), model.blackout(place, place + 1));
        }
        int[] tempi = {20, 60, 240};
        for (int number = 0; number < 20; number++) {
            int bar = number * 31 % 60;
            int tempo = tempi[number % 3];
            due("bar", x.bar(bar, 1 + number % 12, tempo), model.bar(bar, 1 + number % 12, tempo));
            int lasts = 1 + number;
            due("title", x.title(number % 3, bar, lasts, 4 * lasts), model.title(number % 3, bar, lasts, 4 * lasts));
        }
    }

    private static void nothingSung() {
        due("title", x.title(1, 31, 1, 1), model.title(1, 31, 1, 1));
        due("blackout", x.blackout(0, 199), model.blackout(0, 199));
        due("repeat", x.repeat(0, 31), model.repeat(0, 31));
        due("cut", x.cut(0, 31), model.cut(0, 31));
        due("shortest", x.shortest(0), model.shortest(0));
    }

    private static void overlaps() {
        due("shortest", x.shortest(0), model.shortest(0));
        due("repeat", x.repeat(1, 2), model.repeat(1, 2));
        due("cut", x.cut(0, 0), model.cut(0, 0));
        for (int number = 0; number < 9; number++) {
            int bar = 1 + number % 3;
            int lasts = 1 + number % 4;
            due("title", x.title(number % 3, bar, lasts, 80), model.title(number % 3, bar, lasts, 80));
        }
        due("blackout", x.blackout(3, 3), model.blackout(3, 3));
        due("save", x.save(1), model.save(1));
    }

    private static void forEach(int[] edges, IntConsumer tried) {
        for (int edge : edges) {
            tried.accept(edge);
        }
    }

    private static void oneArgument() {
        forEach(BARS, a -> change("bars(" + a + ")", x.bars(a), model.bars(a)));
        forEach(new int[] {LOWEST, -1, 0, 1, 49, 50, 51, HIGHEST}, a -> change("shortest(" + a + ")", x.shortest(a), model.shortest(a)));
        forEach(new int[] {LOWEST, -1, 0, 2, 3, 19, 20, HIGHEST}, a -> change("drop(" + a + ")", x.drop(a), model.drop(a)));
        forEach(WHATS, a -> due("count(" + a + ")", x.count(a), model.count(a)));
        forEach(TIMES, a -> due("at(" + a + ")", x.at(a), model.at(a)));
        forEach(TIMES, a -> due("slowest(" + a + ")", x.slowest(a), model.slowest(a)));
        make();
    }

    private static void twoArguments() {
        for (int a : BARS) {
            forEach(BARS, b -> change("repeat(" + a + ", " + b + ")", x.repeat(a, b), model.repeat(a, b)));
            forEach(BARS, b -> change("cut(" + a + ", " + b + ")", x.cut(a, b), model.cut(a, b)));
            make();
        }
        for (int a : new int[] {LOWEST, -1, 0, 1, 31, 32, 119, 120, 198, 199, 200, HIGHEST}) {
            forEach(new int[] {LOWEST, -1, 0, 1, 31, 119, 198, 199, 200, HIGHEST},
                    b -> change("blackout(" + a + ", " + b + ")", x.blackout(a, b), model.blackout(a, b)));
        }
        for (int a : new int[] {LOWEST, -1, 0, 1, 2, 3, HIGHEST}) {
            forEach(new int[] {LOWEST, -1, 0, 1, 2, 3, 4, HIGHEST},
                    b -> change("undoSpan(" + a + ", " + b + ")", x.undoSpan(a, b), model.undoSpan(a, b)));
        }
        for (int a : new int[] {LOWEST, -1, 0, 1, 2, 3, 19, 20, 30, 31, 32, 39, 40, 59, 60, 119, 120, HIGHEST}) {
            make();
            forEach(WHATS, b -> due("ofBar(" + a + ", " + b + ")", x.ofBar(a, b), model.ofBar(a, b)));
            forEach(WHATS, b -> due("sung(" + a + ", " + b + ")", x.sung(a, b), model.sung(a, b)));
            forEach(WHATS, b -> due("ofTitle(" + a + ", " + b + ")", x.ofTitle(a, b), model.ofTitle(a, b)));
            forEach(WHATS, b -> due("showing(" + a + ", " + b + ")", x.showing(a, b), model.showing(a, b)));
        }
    }

    private static void bar() {
        for (int a : BARS) {
            for (int b : new int[] {LOWEST, -1, 0, 1, 12, 13, HIGHEST}) {
                forEach(new int[] {LOWEST, -1, 0, 19, 20, 240, 241, HIGHEST},
                        c -> change("bar(" + a + ", " + b + ", " + c + ")", x.bar(a, b, c), model.bar(a, b, c)));
            }
            make();
        }
    }

    private static void cutIf() {
        for (int a : BARS) {
            for (int b : BARS) {
                forEach(new int[] {LOWEST, -1, 0, 1, 2, HIGHEST},
                        c -> due("cutIf(" + a + ", " + b + ", " + c + ")", x.cutIf(a, b, c), model.cutIf(a, b, c)));
            }
            make();
        }
    }

    private static void title() {
        for (int a : new int[] {LOWEST, -1, 0, 1, 2, 3, HIGHEST}) {
            for (int b : BARS) {
                for (int c : new int[] {LOWEST, 0, 1, 20, 21, HIGHEST}) {
                    forEach(new int[] {LOWEST, 0, 1, 80, 81, HIGHEST},
                            d -> change("title(" + a + ", " + b + ", " + c + ", " + d + ")", x.title(a, b, c, d), model.title(a, b, c, d)));
                }
                make();
            }
        }
    }

    private static void texts() {
        String[] numbers = {"0", "1", "12", "20", "31", "59", "60", "81", "240", "999"};
        for (String a : numbers) {
            carryOut("-" + a);
            for (String b : numbers) {
                carryOut("r" + a + "-" + b);
                carryOut("x" + a + "-" + b);
                for (String c : numbers) {
                    carryOut("b" + a + "=" + b + "@" + c);
                    carryOut("len".charAt(a.length() % 3) + a + "+" + b + ":" + c);
                }
            }
        }
    }

    private static void carryOut(String order) {
        for (int index = 0; index < order.length(); index++) {
            due("put of " + order, x.put(order.charAt(index)), model.put(order.charAt(index)));
        }
        change("carryOut of " + order, x.carryOut(), model.carryOut());
    }

    private static void history() {
        make();
        for (int step = 0; step < 3; step++) {
            forEach(new int[] {LOWEST, -1, 0, 1, 2, HIGHEST}, a -> change("restore(" + a + ")", x.restore(a), model.restore(a)));
            int slot = step;
            due("save(" + slot + ")", x.save(slot), model.save(slot));
            due("bars", x.bars(60), model.bars(60));
        }
        for (int call = 0; call < 8; call++) {
            due("undo", x.undo(), model.undo());
            due("BARS", x.count(0), model.count(0));
        }
    }
}
