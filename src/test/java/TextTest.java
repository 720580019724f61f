/** Promises 19 to 22: the pad, its fault, and carrying it out. */
public final class TextTest {
    private static final int BAD_VALUE = TitleCaller.BAD_VALUE, NONE = TitleCaller.NONE;

    public static void main(String[] args) {
        promise19Put();
        promise19Limit();
        promise20Wipe();
        promise21Fault();
        promise22EachOrder();
        promise22UpToAnError();
        promise22BadText();
        promise22Forms();
        Check.finish("TextTest");
    }

    private static void promise19Put() {
        TitleCaller x = new TitleCaller();
        long[] bad = {0, 32, 127, 128, 255, -1, Long.MIN_VALUE, 0x610062, 0x6100, 0x100000061L, 0x6120, 0x2061,
            0x0100000000000061L, 0x6162636465666700L, 0xE162636465666768L, 0x7F62636465666768L};
        for (long characters : bad) {
            Check.due("19 put(" + characters + ")", x.put(characters), BAD_VALUE);
        }
        Check.due("19 nothing changed", x.count(13), 0);
        Check.due("19 one", x.put('!'), 1);
        Check.due("19 the highest", x.put('~'), 2);
        Check.due("19 eight", x.put(Check.pack("abcdefgh")), 10);
        Check.due("19 count(13)", x.count(13), 10);
        Check.due("19 is no change", x.count(14), 0);
        x.wipe();
        x.put(Check.pack("x1"));
        x.put(Check.pack("-2"));
        Check.due("19 in their order", x.fault(), NONE);
        x.carryOut();
        Check.due("19 from the first character on", x.ofBar(1, 5), 1);
        Check.due("19 to the last", x.ofBar(2, 5), 1);
    }

    private static void promise19Limit() {
        TitleCaller x = new TitleCaller();
        for (int call = 1; call <= 9; call++) {
            Check.due("19 length", x.put(Check.pack("-0;-0;-0")), 8 * call);
        }
        Check.due("19 75", x.put(Check.pack("abc")), 75);
        Check.due("19 81", x.put(Check.pack("abcdef")), TitleCaller.TOO_MANY);
        Check.due("19 stays", x.count(13), 75);
        Check.due("19 80", x.put(Check.pack("abcde")), 80);
        Check.due("19 full", x.put('a'), TitleCaller.TOO_MANY);
        Check.due("19 bad value before too many", x.put(' '), BAD_VALUE);
    }

    private static void promise20Wipe() {
        TitleCaller x = new TitleCaller();
        Check.due("20 empty", x.wipe(), 0);
        Check.write(x, "x1-2;x3");
        Check.due("20 wipe()", x.wipe(), 7);
        Check.due("20 length", x.count(13), 0);
        Check.due("20 is no change", x.count(14), 0);
        Check.due("20 empties", x.fault(), 0);
        Check.due("20 from the start again", Check.write(x, "r1-2"), 4);
        Check.due("20 a new text", x.fault(), NONE);
    }

    private static void promise21Fault() {
        Object[][] texts = {{"", 0}, {"b", 1}, {"q", 0}, {"B", 0}, {"1", 0}, {";", 0}, {"+", 0}, {"t1+2:3", 0},
            {"b0=4@60", NONE}, {"b00", 2}, {"b01", 2}, {"b10=04", 5}, {"b1000", 4}, {"b999=999@999", NONE},
            {"b999=999@9990", 12}, {"b1-2", 2}, {"b1=2-3", 4}, {"b1=2", 4}, {"b1=2@", 5}, {"b=2", 1}, {"b1=@", 3},
            {"b1=2@3;", 7}, {"b1=2@3;;", 7}, {"b1=2@3@4", 6}, {"b1=2;x1-2", 4}, {"b1=2@3=4", 6},
            {"r1-2", NONE}, {"r1-", 3}, {"r-1", 1}, {"r1--2", 3}, {"r1-2-3", 4}, {"r1=2", 2}, {"r1;", 2}, {"r0-00", 4},
            {"x1-2;r3-4", NONE}, {"x1=2", 2}, {"x12", 3}, {"x100-1000", 8}, {"x1-2r", 4},
            {"l1+2:3", NONE}, {"e0+1:80", NONE}, {"n31+20:1", NONE}, {"l1:2", 2}, {"l1+2+3", 4}, {"l1+2:3:4", 6},
            {"e1+2", 4}, {"n1+2:", 5}, {"l1-2", 2}, {"e1+2:3+", 6}, {"n+", 1},
            {"-1", NONE}, {"-", 1}, {"--1", 1}, {"-1-2", 2}, {"-10;-0", NONE}, {"-0;x", 4}, {"-0;-00", 5}, {"-1:", 2},
            {"-1!", 2}, {"-1/", 2}, {"l1+2:3;r", 8}, {"l1+2:3;b1=2@3;-0;e5+6:7", NONE}};
        for (Object[] row : texts) {
            TitleCaller x = new TitleCaller();
            Check.write(x, (String) row[0]);
            Check.due("21 fault of \"" + row[0] + "\"", x.fault(), (Integer) row[1]);
            Check.due("21 stays", x.count(13), ((String) row[0]).length());
        }
    }

    private static void promise22EachOrder() {
        TitleCaller x = new TitleCaller();
        Check.write(x, "b1=3@120;r2-4;x7-9;l0+1:80;e5+20:7;n6+2:30;-0");
        Check.due("22 all orders", x.carryOut(), 7);
        Check.due("22 the pad is empty", x.count(13), 0);
        Check.due("22 one change", x.count(14), 1);
        Check.due("22 b: beats", x.ofBar(1, 0), 3);
        Check.due("22 b: tempo", x.ofBar(1, 1), 120);
        Check.due("22 r: first", x.ofBar(2, 3), 2);
        Check.due("22 r: last", x.ofBar(4, 3), 2);
        Check.due("22 r: behind", x.ofBar(5, 3), 1);
        Check.due("22 x: first", x.ofBar(7, 5), 1);
        Check.due("22 x: last", x.ofBar(9, 5), 1);
        Check.due("22 x: behind", x.ofBar(10, 5), 0);
        Check.due("22 titles", x.count(4), 2);
        int[][] titles = {{1, 5, 20, 7}, {2, 6, 2, 30}};
        for (int title = 0; title < titles.length; title++) {
            for (int what = 0; what < 4; what++) {
                Check.due("22 title " + title + ", " + what, x.ofTitle(title, what), titles[title][what]);
            }
        }
        Check.due("22 undo of all", x.undo(), 0);
        Check.due("22 undone: titles", x.count(4), 0);
        Check.due("22 undone: bars", x.count(7), 1280);
        Check.due("22 the pad stays empty", x.count(13), 0);
    }

    private static void promise22UpToAnError() {
        TitleCaller x = new TitleCaller();
        Check.write(x, "l0+1:1;r1-3;r3-4;l9+1:1");
        Check.due("22 up to the error", x.carryOut(), 2);
        Check.due("22 those ahead of it stand", x.count(1), 1);
        Check.due("22 those behind it do not come", x.count(4), 1);
        Check.due("22 the pad is empty", x.count(13), 0);
        Check.due("22 one change", x.count(14), 1);
        String[] refused = {"b32=4@60", "b0=0@60", "b0=4@19", "r0-32", "r5-4", "x32-0", "x9-8", "l32+1:1", "e0+0:1",
            "n0+1:81", "-1"};
        for (String order : refused) {
            Check.write(x, order);
            Check.due("22 " + order, x.carryOut(), 0);
            Check.due("22 empties the pad of " + order, x.count(13), 0);
        }
        Check.due("22 a change each", x.count(14), 6);
        Check.due("22 the same as before", x.count(8), 1);
    }

    private static void promise22BadText() {
        TitleCaller x = new TitleCaller();
        Check.due("22 empty", x.carryOut(), TitleCaller.BAD_TEXT);
        Check.write(x, "l0+1:1;l1+1");
        Check.due("22 ends too early", x.carryOut(), TitleCaller.BAD_TEXT);
        Check.due("22 the pad stays", x.count(13), 11);
        Check.due("22 nothing carried out", x.count(4), 0);
        Check.due("22 nothing recorded", x.count(14), 0);
        Check.write(x, ":5");
        Check.due("22 goes on", x.carryOut(), 2);
    }

    private static void promise22Forms() {
        TitleCaller x = new TitleCaller();
        StringBuilder orders = new StringBuilder();
        for (int order = 0; order < 20; order++) {
            x.title(order % 3, order, 1, 1 + order);
            orders.append("-0;");
        }
        orders.append("l7+3:9");
        Check.write(x, orders.toString());
        Check.due("22 many orders", x.carryOut(), 21);
        Check.due("22 the last one came", x.ofTitle(0, 3), 9);
        Check.due("22 alone", x.count(4), 1);
        Check.due("22 undo", x.undo(), 5);
        Check.due("22 they are there again", x.ofTitle(19, 3), 20);
    }
}
