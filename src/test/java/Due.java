/** Counts answers that are not as due, prints each of them, and ends the test. */
final class Due {
    private final String test;
    private int asked;
    private int wrong;

    Due(String test) {
        this.test = test;
    }

    void is(String call, long got, long want) {
        asked++;
        if (got != want) {
            wrong++;
            System.out.println(test + ": " + call + " answered " + got + ", due is " + want);
        }
    }

    void is(String call, boolean got, boolean want) {
        is(call, got ? 1 : 0, want ? 1 : 0);
    }

    void holds(String what, boolean holds) {
        is(what, holds, true);
    }

    void end() {
        System.out.println(test + ": " + asked + " answers, " + wrong + " not as due");
        if (wrong != 0) {
            System.exit(1);
        }
    }

    /** Feeds a text and cuts the TAPE behind it; the TAPE must be empty before. */
    static void tape(AirZone x, String text) {
        int length = text.length();
        for (int at = 0; at < length; at += 20) {
            x.feed(four(text, at), four(text, at + 4), four(text, at + 8),
                    four(text, at + 12), four(text, at + 16));
        }
        x.end(length);
    }

    static int map(AirZone x, String text) {
        tape(x, text);
        return x.map();
    }

    static int orders(AirZone x, int day, String text) {
        tape(x, text);
        return x.orders(day);
    }

    /** The signs of a plate as the lowest six bytes of a long. */
    static long signs(String six) {
        long signs = 0;
        for (int i = 0; i < six.length(); i++) {
            signs = signs << 8 | six.charAt(i) & 255;
        }
        return signs;
    }

    private static int four(String text, int at) {
        int four = 0;
        for (int i = at; i < at + 4; i++) {
            four = four << 8 | (i < text.length() ? text.charAt(i) & 255 : 0);
        }
        return four;
    }
}
