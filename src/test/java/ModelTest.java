/** Long runs of calls, drawn by a fixed rule, against the second reading of the document in Model. */
public final class ModelTest {
    private static final int RUNS = 400;
    private static final int CALLS = 512;
    private static final int[] EDGES = {-1, 0, 1, 2, 3, 4, 5, 10, 19, 20, 21, 32, 50, 51, 59, 60, 61, 80, 81, 199, 200, 240,
        241, 1280, Integer.MAX_VALUE, Integer.MIN_VALUE, -6, 119, 120};

    private static long drawn = 20261118;

    public static void main(String[] args) {
        for (int run = 0; run < RUNS; run++) {
            TitleCaller x = new TitleCaller();
            Model model = new Model();
            for (int call = 0; call < CALLS; call++) {
                callBoth("run " + run + " call " + call + " ", x, model, run % 4);
            }
        }
        Check.finish("ModelTest");
    }

    private static int draw(int below) {
        drawn = drawn * 6364136223846793005L + 1442695040888963407L;
        return (int) ((drawn >>> 33) % below);
    }

    /** A number from 0 on that is below a bound most of the time, and an edge now and then. */
    private static int near(int below) {
        return draw(25) == 0 ? EDGES[draw(EDGES.length)] : draw(below);
    }

    private static void callBoth(String where, TitleCaller x, Model model, int mood) {
        int scale = mood < 2 ? 8 : 33;
        int choice = draw(100);
        if (choice < 40) {
            change(where, x, model, scale, mood);
        } else if (choice < 47) {
            text(where, x, model, scale);
        } else if (choice < 53) {
            history(where, x, model);
        } else if (choice < 60) {
            whatIf(where, x, model, scale);
        } else {
            look(where, x, model, scale);
        }
    }

    private static void change(String where, TitleCaller x, Model model, int scale, int mood) {
        int a = near(scale);
        int b = draw(3) == 0 ? near(scale) : a + draw(5);
        switch (draw(mood % 2 == 0 ? 14 : 10)) {
            case 0: {
                int bars = draw(4) == 0 ? near(62) : scale + draw(3) - 1;
                Check.due(where + "bars", x.bars(bars), model.bars(bars));
                break;
            }
            case 1: {
                int tenths = near(draw(2) == 0 ? 10 : 52);
                Check.due(where + "shortest", x.shortest(tenths), model.shortest(tenths));
                break;
            }
            case 2: case 3: {
                int beats = near(13);
                int tempo = draw(3) == 0 ? near(242) : 20 + draw(221);
                Check.due(where + "bar", x.bar(a, beats, tempo), model.bar(a, beats, tempo));
                break;
            }
            case 4: Check.due(where + "repeat", x.repeat(a, b), model.repeat(a, b)); break;
            case 5: Check.due(where + "cut", x.cut(a, b), model.cut(a, b)); break;
            case 6: Check.due(where + "blackout", x.blackout(a, b), model.blackout(a, b)); break;
            case 7: case 8: {
                int what = near(3);
                int number = near(4);
                Check.due(where + "undoSpan", x.undoSpan(what, number), model.undoSpan(what, number));
                break;
            }
            case 9: {
                int title = near(8);
                Check.due(where + "drop", x.drop(title), model.drop(title));
                break;
            }
            default: {
                int kind = near(3);
                int bars = draw(2) == 0 ? 1 + draw(4) : near(21);
                int letters = near(81);
                Check.due(where + "title", x.title(kind, a, bars, letters), model.title(kind, a, bars, letters));
                break;
            }
        }
    }

    private static void text(String where, TitleCaller x, Model model, int scale) {
        switch (draw(8)) {
            case 0: {
                long packed = draw(2) == 0 ? Check.pack("1" + (char) draw(256) + (char) draw(128)) : (long) draw(1 << 30) << draw(34);
                Check.due(where + "put", x.put(packed), model.put(packed));
                break;
            }
            case 1: Check.due(where + "wipe", x.wipe(), model.wipe()); break;
            case 2: case 3: Check.due(where + "carryOut", x.carryOut(), model.carryOut()); break;
            default: {
                Check.due(where + "fault ahead", x.fault(), model.fault());
                StringBuilder order = new StringBuilder(draw(3) == 0 ? "" : x.fault() == TitleCaller.NONE ? ";" : "");
                order.append(order(scale));
                if (draw(6) == 0) {
                    order.setCharAt(draw(order.length()), "0123456789brxlen-=@+:;~!".charAt(draw(24)));
                }
                for (int index = 0; index < order.length(); index += 8) {
                    long packed = Check.pack(order.substring(index, Math.min(order.length(), index + 8)));
                    Check.due(where + "put", x.put(packed), model.put(packed));
                }
                Check.due(where + "fault", x.fault(), model.fault());
                break;
            }
        }
    }

    private static String order(int scale) {
        int a = draw(scale);
        switch (draw(7)) {
            case 0: return "b" + a + "=" + draw(14) + "@" + draw(260);
            case 1: return "r" + a + "-" + (a + draw(3));
            case 2: return "x" + a + "-" + (a + draw(3));
            case 3: return "-" + draw(6);
            default: return "" + "len".charAt(draw(3)) + a + "+" + draw(22) + ":" + draw(84);
        }
    }

    private static void history(String where, TitleCaller x, Model model) {
        int slot = near(2);
        switch (draw(4)) {
            case 0: case 1: Check.due(where + "undo", x.undo(), model.undo()); break;
            case 2: Check.due(where + "save", x.save(slot), model.save(slot)); break;
            default: Check.due(where + "restore", x.restore(slot), model.restore(slot)); break;
        }
    }

    private static void whatIf(String where, TitleCaller x, Model model, int scale) {
        if (draw(2) == 0) {
            int time = draw(3) == 0 ? near(4000) : draw(model.count(7) + 1);
            Check.due(where + "slowest", x.slowest(time), model.slowest(time));
            return;
        }
        int a = near(scale);
        int b = a + draw(4);
        int what = near(2);
        Check.due(where + "cutIf", x.cutIf(a, b, what), model.cutIf(a, b, what));
    }

    private static void look(String where, TitleCaller x, Model model, int scale) {
        int what = near(8);
        int number = near(draw(2) == 0 ? 5 : scale);
        switch (draw(6)) {
            case 0: Check.due(where + "ofBar", x.ofBar(number, what), model.ofBar(number, what)); break;
            case 1: Check.due(where + "sung", x.sung(number, what), model.sung(number, what)); break;
            case 2: Check.due(where + "ofTitle", x.ofTitle(number, what), model.ofTitle(number, what)); break;
            case 3: Check.due(where + "showing", x.showing(number, what), model.showing(number, what)); break;
            case 4: {
                int time = near(1500);
                Check.due(where + "at", x.at(time), model.at(time));
                break;
            }
            default: {
                int sort = near(15);
                Check.due(where + "count", x.count(sort), model.count(sort));
                break;
            }
        }
    }
}
