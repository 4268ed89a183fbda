/** What the project's tests share: counting wrong answers, and putting a text on the tape. */
final class Check {
    private static int wrong = 0;
    private static int asked = 0;

    private Check() {
    }

    static void due(String call, long got, long want) {
        asked++;
        if (got != want) {
            wrong++;
            System.out.println(call + " answered " + got + ", due is " + want);
        }
    }

    static void isTrue(String what, boolean so) {
        due(what, so ? 1 : 0, 1);
    }

    static boolean anyWrong() {
        return wrong > 0;
    }

    /** Puts the text alone on the tape. */
    static void tell(WineSpoon x, String text) {
        x.end(0);
        for (int at = 0; at < text.length(); at += 20) {
            int[] five = new int[5];
            for (int k = 0; k < 20; k++) {
                int sign = at + k < text.length() ? text.charAt(at + k) & 255 : 0;
                five[k / 4] = five[k / 4] << 8 | sign;
            }
            due("feed of text", x.feed(five[0], five[1], five[2], five[3], five[4]), at + 20);
        }
        due("end of text", x.end(text.length()), text.length());
    }

    /** Puts the text on the tape and runs it as an evening. */
    static int evening(WineSpoon x, String text) {
        tell(x, text);
        return x.evening();
    }

    static void close() {
        System.out.println(asked + " answers, " + wrong + " not as due");
        if (wrong != 0) {
            System.exit(1);
        }
    }
}
