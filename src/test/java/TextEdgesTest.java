/** The edges of promises 19 to 22 and of the terms of texts: a test for each sentence that names one. */
public final class TextEdgesTest {
    private static final int BAD_VALUE = TitleCaller.BAD_VALUE, BAD_TEXT = TitleCaller.BAD_TEXT, TOO_MANY = TitleCaller.TOO_MANY,
            NONE = TitleCaller.NONE;
    // 80 characters, 27 orders.
    private static final String LONGEST = "-0;-0;-0;-0;-0;-0;-0;-0;-0;-0;-0;-0;-0;-0;-0;-0;-0;-0;-0;-0;-0;-0;-0;-0;-0;-0;-0";
    private static final String[] ORDERS = {"b0=4@60", "b999=0@10", "r0-0", "r10-999", "x0-5", "x100-20", "l0+1:1", "e31+20:80",
        "n999+999:999", "-0", "-999"};

    public static void main(String[] args) {
        putOfEachCode();
        putOfOneToEight();
        putWithACodeOfZero();
        putWithABadCodeAtEachPlace();
        putUpToEighty();
        putKeepsTheOrder();
        wipeOfNothingAndOfAll();
        wipeThenNothingOfBefore();
        faultOfNothing();
        faultOfATextThatEndsTooEarly();
        faultOfAnyCharacterAtAnyPlace();
        faultOfNumbers();
        faultIsTheFirstOne();
        faultAtTheEndOfTheLongestText();
        carryOutOfBadTexts();
        carryOutOfOneOrder();
        carryOutOfEachNumberOfATitle();
        carryOutOfTheMostOrders();
        carryOutUpToEachLimit();
        carryOutStopsAtTheFirstMiddleAndLast();
        carryOutIsOneChange();
        carryOutOfNumbersAtTheirEnds();
        Check.finish("TextEdgesTest");
    }

    private static void putOfEachCode() {
        for (int code = 0; code < 256; code++) {
            TitleCaller x = new TitleCaller();
            boolean good = code >= 33 && code <= 126;
            Check.due("19 put(" + code + ")", x.put(code), good ? 1 : BAD_VALUE);
            Check.due("19 length behind put(" + code + ")", x.count(13), good ? 1 : 0);
        }
    }

    private static void putOfOneToEight() {
        for (int length = 1; length <= 8; length++) {
            TitleCaller x = new TitleCaller();
            Check.due("19 put of " + length, x.put(Check.pack("!~!~!~!~".substring(0, length))), length);
            Check.due("19 put of as many again", x.put(Check.pack("~~~~~~~~".substring(0, length))), 2 * length);
        }
        TitleCaller x = new TitleCaller();
        Check.due("19 no character", x.put(0), BAD_VALUE);
        Check.due("19 eight of the highest code", x.put(0x7E7E7E7E7E7E7E7EL), 8);
        Check.due("19 eight of the lowest code", x.put(0x2121212121212121L), 16);
        Check.due("19 the highest number", x.put(Long.MAX_VALUE), BAD_VALUE);
        Check.due("19 the lowest number", x.put(Long.MIN_VALUE), BAD_VALUE);
    }

    private static void putWithACodeOfZero() {
        TitleCaller x = new TitleCaller();
        for (int above = 1; above < 8; above++) {
            long characters = 0x6161616161616161L & ~(255L << 8 * above);
            Check.due("19 0 at " + above + " with more above it", x.put(characters), above == 7 ? 7 : BAD_VALUE);
            for (int bit = 8 * above + 8; bit < 64; bit++) {
                long alone = 0x6161616161616161L >>> 64 - 8 * above | 1L << bit;
                Check.due("19 0 at " + above + " with bit " + bit, x.put(alone), BAD_VALUE);
            }
        }
        for (int bit = 8; bit < 64; bit++) {
            Check.due("19 0 as the last character, with bit " + bit, x.put(1L << bit), BAD_VALUE);
        }
        Check.due("19 nothing of these came", x.count(13), 7);
    }

    private static void putWithABadCodeAtEachPlace() {
        TitleCaller x = new TitleCaller();
        for (int length = 1; length <= 8; length++) {
            for (int place = 0; place < length; place++) {
                for (long code : new long[] {1, 32, 127, 128, 255}) {
                    long good = 0x6161616161616161L >>> 64 - 8 * length;
                    long bad = good & ~(255L << 8 * place) | code << 8 * place;
                    Check.due("19 code " + code + " at " + place + " of " + length, x.put(bad), BAD_VALUE);
                }
            }
        }
        Check.due("19 nothing of these came", x.count(13), 0);
    }

    private static void putUpToEighty() {
        for (int last = 1; last <= 8; last++) {
            TitleCaller x = new TitleCaller();
            Check.write(x, LONGEST.substring(0, 80 - last));
            for (int more = last + 1; more <= 8; more++) {
                Check.due("19 " + more + " behind " + (80 - last), x.put(Check.pack("abcdefgh".substring(0, more))), TOO_MANY);
            }
            Check.due("19 it stays", x.count(13), 80 - last);
            Check.due("19 up to 80", x.put(Check.pack("abcdefgh".substring(0, last))), 80);
            Check.due("19 no more", x.put('a'), TOO_MANY);
            Check.due("19 nor eight", x.put(Check.pack("abcdefgh")), TOO_MANY);
            Check.due("19 BAD_VALUE first", x.put(0), BAD_VALUE);
            Check.due("19 as long as it can be", x.count(13), 80);
        }
    }

    private static void putKeepsTheOrder() {
        for (int first = 1; first < 8; first++) {
            TitleCaller x = new TitleCaller();
            x.put(Check.pack("b5=3@120".substring(0, first)));
            x.put(Check.pack("b5=3@120".substring(first)));
            Check.due("19 in parts of " + first, x.carryOut(), 1);
            Check.due("19 its beats", x.ofBar(5, 0), 3);
            Check.due("19 its tempo", x.ofBar(5, 1), 120);
        }
    }

    private static void wipeOfNothingAndOfAll() {
        TitleCaller x = new TitleCaller();
        Check.due("20 nothing", x.wipe(), 0);
        Check.write(x, LONGEST);
        Check.due("20 all", x.wipe(), 80);
        Check.due("20 nothing again", x.wipe(), 0);
        Check.due("20 there is room again", Check.write(x, LONGEST), 80);
        Check.due("20 is no change", x.count(14), 0);
    }

    private static void wipeThenNothingOfBefore() {
        TitleCaller x = new TitleCaller();
        Check.write(x, "x1-2;x3-4");
        x.wipe();
        Check.write(x, "x5-6");
        Check.due("20 nothing of before is carried out", x.carryOut(), 1);
        Check.due("20 bar 3", x.ofBar(3, 5), 0);
        Check.write(x, "x7-");
        Check.due("20 nor of what was carried out", x.fault(), 3);
    }

    private static void faultOfNothing() {
        TitleCaller x = new TitleCaller();
        Check.due("21 a new pad", x.fault(), 0);
        x.put('-');
        Check.due("21 one character", x.fault(), 1);
        x.wipe();
        Check.due("21 a pad that was wiped", x.fault(), 0);
    }

    private static void dueFault(String text, int due) {
        TitleCaller x = new TitleCaller();
        Check.write(x, text);
        Check.due("21 fault of " + text, x.fault(), due);
        Check.due("21 and once more, of " + text, x.fault(), due);
        Check.due("21 carryOut() of " + text, x.carryOut() == BAD_TEXT ? 0 : 1, due == NONE ? 1 : 0);
        Check.due("21 the pad behind carryOut() of " + text, x.count(13), due == NONE ? 0 : text.length());
    }

    private static void faultOfATextThatEndsTooEarly() {
        for (String order : ORDERS) {
            int lastNumber = order.length();
            while (Character.isDigit(order.charAt(lastNumber - 1))) {
                lastNumber--;
            }
            for (int length = 1; length <= order.length(); length++) {
                dueFault(order.substring(0, length), length > lastNumber ? NONE : length);
            }
            dueFault(order + ";", order.length() + 1);
            dueFault(order + ";-1", NONE);
        }
    }

    private static void faultOfAnyCharacterAtAnyPlace() {
        for (String order : ORDERS) {
            String text = order + ";-7";
            for (int place = 0; place < text.length(); place++) {
                for (char code = 33; code < 127; code++) {
                    String other = text.substring(0, place) + code + text.substring(place + 1);
                    TitleCaller x = new TitleCaller();
                    Model model = new Model();
                    for (int index = 0; index < other.length(); index++) {
                        x.put(other.charAt(index));
                        model.put(other.charAt(index));
                    }
                    Check.due("21 fault of " + other, x.fault(), model.fault());
                }
            }
        }
    }

    private static void faultOfNumbers() {
        String[] heads = {"b", "b1=", "b1=1@", "r", "r1-", "x", "x1-", "l", "l1+", "l1+1:", "e1+1:", "n1+1:", "-"};
        String[] tails = {"=1@1", "@1", "", "-1", "", "-1", "", "+1:1", ":1", "", "", "", ""};
        for (int row = 0; row < heads.length; row++) {
            int from = heads[row].length();
            for (String number : new String[] {"0", "1", "9", "10", "99", "100", "999"}) {
                dueFault(heads[row] + number + tails[row], NONE);
            }
            dueFault(heads[row] + "00" + tails[row], from + 1);
            dueFault(heads[row] + "01" + tails[row], from + 1);
            dueFault(heads[row] + "000" + tails[row], from + 1);
            dueFault(heads[row] + "1000" + tails[row], from + 3);
            dueFault(heads[row] + "9990" + tails[row], from + 3);
            dueFault(heads[row] + "99999999999" + tails[row], from + 3);
            dueFault(heads[row] + tails[row], from);
            dueFault(heads[row] + "-1" + tails[row], from);
            dueFault(heads[row] + "+1" + tails[row], from);
        }
    }

    private static void faultIsTheFirstOne() {
        dueFault("q;q;q", 0);
        dueFault("-1;q;q", 3);
        dueFault("-1;-2;q", 6);
        dueFault("-1;;q", 3);
        dueFault(";-1", 0);
        dueFault("-01;-1;", 2);
    }

    private static void faultAtTheEndOfTheLongestText() {
        dueFault(LONGEST, NONE);
        String row78 = LONGEST.substring(0, 78);
        dueFault(row78 + "-x", 79);
        dueFault(row78 + "--", 79);
        dueFault(row78 + ";;", 78);
        String row75 = LONGEST.substring(0, 75);
        dueFault(row75 + "-1000", 79);
        dueFault(row75 + "-1-23", 77);
        dueFault(row75 + "x1-23", NONE);
        dueFault("-999;" + row75, 80);
        dueFault("-10;" + row75 + "-", 80);
        String row72 = LONGEST.substring(0, 72);
        dueFault(row72 + "b1=2@123", NONE);
        dueFault(row72 + "b1=12@1;", 80);
        dueFault(row72 + "l1+222:3", NONE);
        dueFault(row72 + "l1+2222:", 78);
    }

    private static void carryOutOfBadTexts() {
        TitleCaller x = new TitleCaller();
        Check.due("22 nothing", x.carryOut(), BAD_TEXT);
        Check.write(x, "x1-2;x3-4;");
        Check.due("22 a fault behind good orders", x.carryOut(), BAD_TEXT);
        Check.due("22 none of them is carried out", x.count(2), 0);
        Check.due("22 the pad stays", x.count(13), 10);
        Check.due("22 no change", x.count(14), 0);
        Check.write(x, "x5-6");
        Check.due("22 when the fault is mended", x.carryOut(), 3);
        Check.due("22 all are carried out", x.count(2), 3);
        Check.due("22 the pad is empty", x.count(13), 0);
        Check.due("22 and cannot be carried out again", x.carryOut(), BAD_TEXT);
        Check.due("22 one change", x.count(14), 1);
    }

    private static void carryOutOfOneOrder() {
        for (String order : new String[] {"b31=12@20", "r0-31", "x0-31", "l0+1:1", "e31+20:80", "n5+2:40"}) {
            TitleCaller x = new TitleCaller();
            Check.write(x, order);
            Check.due("22 " + order, x.carryOut(), 1);
            Check.due("22 undo of " + order, x.undo(), 0);
            Check.same("22 as before " + order, Told.by(x), Told.by(new TitleCaller()));
        }
        TitleCaller x = new TitleCaller();
        x.title(0, 0, 1, 1);
        Check.write(x, "-0");
        Check.due("22 -0", x.carryOut(), 1);
        Check.due("22 the title is dropped", x.count(4), 0);
    }

    private static void carryOutOfEachNumberOfATitle() {
        String kinds = "len";
        for (int kind = 0; kind < 3; kind++) {
            TitleCaller x = new TitleCaller();
            Check.write(x, kinds.charAt(kind) + "31+20:1;" + kinds.charAt(kind) + "0+1:80");
            Check.due("22 two titles", x.carryOut(), 2);
            int[][] titles = {{kind, 31, 20, 1}, {kind, 0, 1, 80}};
            for (int title = 0; title < 2; title++) {
                for (int what = 0; what < 4; what++) {
                    Check.due("22 ofTitle(" + title + ", " + what + ")", x.ofTitle(title, what), titles[title][what]);
                }
            }
        }
    }

    private static void carryOutOfTheMostOrders() {
        TitleCaller x = new TitleCaller();
        for (int number = 0; number < 20; number++) {
            x.title(0, 0, 1, 1);
        }
        Check.write(x, LONGEST);
        Check.due("22 20 of 27 orders", x.carryOut(), 20);
        Check.due("22 no title is left", x.count(4), 0);
        for (int number = 0; number < 7; number++) {
            Check.write(x, "e0+1:1;e0+1:1;e0+1:1");
            Check.due("22 up to the 20th title", x.carryOut(), number < 6 ? 3 : 2);
        }
        Check.due("22 20 titles", x.count(4), 20);
        Check.write(x, "-0;e0+1:1;-0;e0+1:1;-0;e0+1:1;-0;e0+1:1;-0;e0+1:1;-0;e0+1:1;-0;e0+1:1;-0;e0+1:2");
        Check.due("22 an order makes room for the next one", x.carryOut(), 16);
        Check.due("22 the last order", x.ofTitle(19, 3), 2);
        Check.due("22 the last but one", x.ofTitle(18, 3), 1);
    }

    private static void carryOutUpToEachLimit() {
        TitleCaller x = new TitleCaller();
        Check.write(x, "r0-0;r1-1;r2-2;r3-3;r4-4;x9-9");
        Check.due("22 four repeats", x.carryOut(), 4);
        Check.due("22 no order behind the error", x.count(2), 0);
        Check.write(x, "x0-0;x0-0;x0-0;x0-0;x0-0");
        Check.due("22 four cuts", x.carryOut(), 4);
        Check.write(x, "r5-5");
        Check.due("22 no fifth repeat", x.carryOut(), 0);
        x.undoSpan(0, 0);
        Check.write(x, "r1-1");
        Check.due("22 none with a bar in common", x.carryOut(), 0);
        Check.write(x, "r0-0");
        Check.due("22 a fourth one", x.carryOut(), 1);
    }

    private static void carryOutStopsAtTheFirstMiddleAndLast() {
        String[] texts = {"b32=4@60;x1-1;x2-2", "x1-1;b32=4@60;x2-2", "x1-1;x2-2;b32=4@60"};
        for (int errors = 0; errors < texts.length; errors++) {
            TitleCaller x = new TitleCaller();
            Check.write(x, texts[errors]);
            Check.due("22 up to error " + errors, x.carryOut(), errors);
            Check.due("22 cuts ahead of error " + errors, x.count(2), errors);
            Check.due("22 the pad is empty", x.count(13), 0);
            Check.due("22 one change", x.count(14), 1);
            Check.due("22 it is undone", x.undo(), 0);
            Check.due("22 no cut", x.count(2), 0);
        }
    }

    private static void carryOutIsOneChange() {
        TitleCaller x = new TitleCaller();
        for (int call = 1; call <= 8; call++) {
            Check.write(x, "x32-0;x1-1");
            Check.due("22 none is carried out", x.carryOut(), 0);
            Check.due("22 a change all the same", x.count(14), Math.min(6, call));
        }
        x.shortest(20);
        Check.write(x, "l0+1:1;l1+1:1;l2+1:1");
        x.carryOut();
        Check.due("22 three orders are one change", x.undo(), 5);
        Check.due("22 all three are undone", x.count(4), 0);
        Check.due("22 nothing else is", x.count(5), 20);
    }

    private static void carryOutOfNumbersAtTheirEnds() {
        String[] good = {"b0=1@20", "b31=12@240", "r0-0", "r31-31", "x0-31", "l0+1:1", "l31+20:80"};
        String[] bad = {"b32=1@20", "b0=0@20", "b0=13@20", "b0=1@19", "b0=1@241", "r32-32", "r31-32", "r1-0", "x32-32", "x31-32", "x1-0",
            "l32+1:1", "l0+0:1", "l0+21:1", "l0+1:0", "l0+1:81", "-0", "b999=999@999", "r999-999", "x0-999", "n999+999:999", "-999"};
        for (String order : good) {
            TitleCaller x = new TitleCaller();
            Check.write(x, order);
            Check.due("22 good " + order, x.carryOut(), 1);
        }
        for (String order : bad) {
            TitleCaller x = new TitleCaller();
            Check.write(x, order);
            Check.due("22 bad " + order, x.carryOut(), 0);
            Check.due("22 bad, recorded " + order, x.count(14), 1);
            Check.due("22 bad, the pad " + order, x.count(13), 0);
        }
        TitleCaller x = new TitleCaller();
        x.bars(60);
        Check.write(x, "b59=12@20;r59-59;x58-58;n59+20:80");
        Check.due("22 at the last bar of all", x.carryOut(), 4);
        Check.due("22 the night", x.count(7), 58 * 40 + 2 * 360);
    }
}
