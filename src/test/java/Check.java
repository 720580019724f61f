import java.util.Arrays;

/** Counts the answers of one test program, and ends it with 1 if one was not as due. */
final class Check {
    private static int right = 0;
    private static int wrong = 0;

    private Check() {
    }

    static void due(String call, long got, long want) {
        if (got == want) {
            right++;
            return;
        }
        wrong++;
        System.out.println(call + " answered " + got + ", due is " + want);
    }

    static void holds(String what, boolean isSo) {
        due(what, isSo ? 1 : 0, 1);
    }

    static void same(String what, int[] got, int[] want) {
        int difference = Arrays.mismatch(got, want);
        if (difference < 0) {
            right++;
            return;
        }
        wrong++;
        System.out.println(what + ": differs from answer " + difference + " on");
    }

    /** Packs up to eight characters as put() takes them. */
    static long pack(String characters) {
        long packed = 0;
        for (int index = 0; index < characters.length(); index++) {
            packed = packed << 8 | characters.charAt(index);
        }
        return packed;
    }

    /** Appends a text to the pad, eight characters a call, and answers what the last put() did. */
    static int write(TitleCaller x, String text) {
        int answer = 0;
        for (int index = 0; index < text.length(); index += 8) {
            answer = x.put(pack(text.substring(index, Math.min(text.length(), index + 8))));
        }
        return answer;
    }

    static void finish(String name) {
        System.out.println(name + ": " + right + " answers as due, " + wrong + " not");
        if (wrong > 0) {
            System.exit(1);
        }
    }
}
