/**
 * Every sentence on WHOSE, DOUBLE and INSIDE that names a boundary case has a method of its own, with its
 * words above it (their terms, promises 15 to 18).
 */
public final class WhoseEdgesTest {
    private static final Due DUE = new Due("WhoseEdgesTest");
    private static final int LEAST = Integer.MIN_VALUE;
    private static final int GREATEST = Integer.MAX_VALUE;
    private static final String A = "aaaaaa";

    public static void main(String[] args) {
        nobodyAt4();
        eachAtItsPrice();
        notLike();
        betweenAtLeast();
        noWayJoins();
        likeMinutes();
        eachTwo();
        leastOfAll();
        firstByReadings();
        firstByPlates();
        nobodyLast();
        sevenReadingsTenPlates();
        doesNotCount();
        readingNone();
        doubtNone();
        doubleByZero();
        doubleCantBeByOne();
        doubleThatCount();
        doubleNone();
        withoutTwoReadings();
        bothInZoneLessThanOut();
        noPointOutside();
        bothOutsideLessThanIn();
        byEachPoint();
        noPointInside();
        oneInTheZone();
        firstToLast();
        byMinutes();
        insideNone();
        DUE.end();
    }

    /** A row of p0 .. p6, 10 minutes from each to the next one, a camera at each; p11 alone with one. */
    private static AirZone row(String zone, String... plates) {
        AirZone x = new AirZone();
        StringBuilder text = new StringBuilder(zone);
        for (int n = 0; n < 6; n++) {
            text.append("way p").append(n).append(" p").append(n + 1).append(" 10;");
        }
        for (int n = 0; n < 7; n++) {
            text.append("camera p").append(n).append(" from 0 to 1440;");
        }
        DUE.holds("a row", Due.map(x, text + "camera p11 from 0 to 1440;") >= 14);
        for (String plate : plates) {
            DUE.holds("a plate", x.plate(Due.signs(plate), 0) >= 0);
        }
        return x;
    }

    private static void read(AirZone x, int camera, int minute, String signs) {
        DUE.holds("a reading", x.read(camera, 0, minute, Due.signs(signs)) >= 0);
    }

    private static void whose(AirZone x, int price, int... owners) {
        for (int n = 0; n < owners.length; n++) {
            DUE.is("whose(" + n + ")", x.whose(n, 0), owners[n]);
        }
        DUE.is("doubt", x.doubt(0, 0), price);
    }

    // or of nobody, at 4
    private static void nobodyAt4() {
        AirZone x = row("");
        for (int n = 1; n <= 7; n++) {
            read(x, 0, 0, A);
            DUE.is(n + " of nobody", x.doubt(0, 0), 4 * n);
            DUE.is("nobody's", x.whose(n - 1, 0), -1);
        }
    }

    // each READING of a DAY that counts is of a PLATE that it is LIKE, at that price
    private static void eachAtItsPrice() {
        AirZone x = row("", "abcde0");
        read(x, 0, 0, "abcde0");
        whose(x, 0, 0);
        read(x, 0, 0, "abcdeo");
        whose(x, 1, 0, 0);
        read(x, 0, 0, "abc??0");
        whose(x, 3, 0, 0, 0);
        // also a PLATE that is told behind the READING, and behind a first answer
        AirZone y = row("");
        read(y, 0, 0, "abcdeo");
        whose(y, 4, -1);
        y.plate(Due.signs("abcde0"), 0);
        whose(y, 1, 0);
        y.plate(Due.signs("abcdeo"), 0);
        whose(y, 0, 1);
    }

    // that it is LIKE (no more than 2)
    private static void notLike() {
        AirZone x = row("", "abcd00");
        read(x, 0, 0, "ab???0");
        read(x, 0, 0, "abcd01");
        whose(x, 8, -1, -1);
    }

    // of each two (by MINUTES) those between are BETWEEN their P at least
    private static void betweenAtLeast() {
        AirZone x = row("", A);
        read(x, 0, 100, A);
        read(x, 3, 130, A);
        whose(x, 0, 0, 0);
        AirZone y = row("", A);
        read(y, 0, 100, A);
        read(y, 3, 129, A);
        whose(y, 4, 0, -1);
        AirZone z = row("", A);
        read(z, 3, 129, A);
        read(z, 0, 100, A);
        whose(z, 4, 0, -1);
        AirZone w = row("", A);
        read(w, 3, 130, A);
        read(w, 0, 100, A);
        whose(w, 0, 0, 0);
    }

    // (P's that no way joins can't be.)
    private static void noWayJoins() {
        AirZone x = row("", A);
        read(x, 0, 0, A);
        read(x, 7, 1439, A);
        whose(x, 4, 0, -1);
        DUE.is("double", x.isDouble(0, 0, 0), 1);
    }

    // those of one PLATE can all be by one (0 from one to itself)
    private static void likeMinutes() {
        AirZone x = row("", A);
        read(x, 7, 0, A);
        read(x, 7, 0, A);
        whose(x, 0, 0, 0);
        DUE.is("not double", x.isDouble(0, 0, 0), 0);
        AirZone y = row("", A);
        read(y, 0, 5, A);
        read(y, 1, 5, A);
        whose(y, 4, 0, -1);
    }

    // those of one PLATE can all be by one: of each two
    private static void eachTwo() {
        AirZone x = row("", A);
        read(x, 0, 0, A);
        read(x, 3, 30, A);
        read(x, 0, 59, A);
        // the first and the last can be by one, and the first two; the last two can't
        whose(x, 4, 0, 0, -1);
        read(x, 3, 31, A);
        whose(x, 4, 0, 0, -1, 0);
        read(x, 0, 1, A);
        whose(x, 8, 0, 0, -1, 0, -1);
        read(x, 0, 2, A);
        // p0 at 0, 1, 2, 59 without p3 at 30, 31
        whose(x, 8, 0, -1, 0, -1, 0, 0);
    }

    // The least price of all
    private static void leastOfAll() {
        // the first reading would be of plate 0 for nothing, but two others are of it then
        AirZone x = row("", A);
        read(x, 0, 0, A);
        read(x, 6, 0, "aaaaa?");
        whose(x, 4, 0, -1);
        read(x, 6, 0, "aaaa??");
        // 4 for the first is less than 8 for both others, less what they cost
        whose(x, 7, -1, 0, 0);
    }

    // of like ones the first by READINGS as TOLD
    private static void firstByReadings() {
        AirZone x = row("", A);
        read(x, 6, 9, A);
        read(x, 0, 0, A);
        whose(x, 4, 0, -1);
        AirZone y = row("", A, "aaaaao");
        read(y, 6, 9, "aaaaa?");
        read(y, 0, 0, "aaaaa?");
        whose(y, 2, 0, 1);
    }

    // by PLATES' numbers
    private static void firstByPlates() {
        String[] plates = {"aaaaab", "aaaaac", "aaaaad", "aaaaae", "aaaaaf", "aaaaag", "aaaaah", "aaaaaj", "aaaaak", "aaaaaa"};
        AirZone x = row("", plates);
        for (int n = 0; n < 7; n++) {
            read(x, n, 0, "aaaaa?");
        }
        whose(x, 7, 0, 1, 2, 3, 4, 5, 6);
        AirZone y = row("", plates);
        read(y, 0, 0, "aaaaa?");
        read(y, 1, 9, "aaaaa?");
        read(y, 2, 20, "aaaaa?");
        whose(y, 3, 0, 1, 0);
    }

    // nobody last
    private static void nobodyLast() {
        AirZone x = row("", "aaaa00");
        read(x, 0, 0, "aaaaoo");
        read(x, 6, 0, "aaaaoo");
        whose(x, 6, 0, -1);
        // the tenth plate still comes ahead of nobody
        AirZone y = row("");
        for (int n = 0; n < 9; n++) {
            y.plate(Due.signs("bbbbb" + n), 0);
        }
        y.plate(Due.signs("aaaa00"), 0);
        read(y, 0, 0, "aaaaoo");
        read(y, 6, 0, "aaaaoo");
        whose(y, 6, 9, -1);
    }

    // READINGS (of one DAY 7 at most ..); PLATES, 10 at most
    private static void sevenReadingsTenPlates() {
        String[] plates = {"oooooo", "0ooooo", "o0oooo", "oo0ooo", "ooo0oo", "oooo0o", "ooooo0", "00oooo", "o00ooo", "oo00oo"};
        AirZone x = row("", plates);
        for (int n = 0; n < 7; n++) {
            read(x, n, 0, n == 6 ? "oo00oo" : "oooooo");
        }
        whose(x, 5, 0, 1, 2, 3, 4, 5, 9);
        AirZone y = row("", plates);
        for (int n = 0; n < 7; n++) {
            read(y, 7, n, "oooooo");
        }
        whose(y, 0, 0, 0, 0, 0, 0, 0, 0);
    }

    // WHOSE a READING is, as known at k; NONE .. or it does not count
    private static void doesNotCount() {
        AirZone x = row("", A);
        read(x, 0, 0, A);
        x.later(3);
        read(x, 6, 0, A);
        x.later(3);
        x.untell(0);
        int[] k = {LEAST, -1, 0, 2, 3, 5, 6, GREATEST};
        int[] first = {-1, -1, 0, 0, 0, 0, -1, -1};
        int[] second = {-1, -1, -1, -1, -1, -1, 0, 0};
        int[] price = {0, 0, 0, 0, 4, 4, 0, 0};
        for (int n = 0; n < k.length; n++) {
            DUE.is("the first at " + k[n], x.whose(0, k[n]), first[n]);
            DUE.is("the second at " + k[n], x.whose(1, k[n]), second[n]);
            DUE.is("doubt at " + k[n], x.doubt(0, k[n]), price[n]);
        }
    }

    // NONE nobody's, .. or it is none
    private static void readingNone() {
        AirZone x = row("", A);
        x.papers(0, 0, 0, 0, 0, 0);
        x.appeal(0, 0);
        read(x, 0, 0, A);
        read(x, 0, 0, "bbbbbb");
        DUE.is("a reading", x.whose(2, 0), 0);
        DUE.is("nobody's", x.whose(3, 0), -1);
        int[] bad = {0, 1, 4, -1, 200, LEAST, GREATEST};
        for (int fact : bad) {
            DUE.is("none " + fact, x.whose(fact, 0), -1);
        }
    }

    // The least price of a DAY's READINGS; NONE if there is no such DAY
    private static void doubtNone() {
        AirZone x = row("", A);
        DUE.is("without readings", x.doubt(0, 0), 0);
        x.read(0, 99, 0, Due.signs("bbbbbb"));
        DUE.is("day 99", x.doubt(99, 0), 4);
        DUE.is("day 98", x.doubt(98, 0), 0);
        int[] bad = {-1, 100, LEAST, GREATEST};
        for (int day : bad) {
            DUE.is("day " + day, x.doubt(day, 0), -1);
        }
    }

    // A PLATE is DOUBLE on a DAY if two READINGS of the DAY that count, LIKE it by 0
    private static void doubleByZero() {
        String[] seconds = {"aaaao0", "aaaa00", "aaaao?", "aaaaoo"};
        for (String second : seconds) {
            AirZone x = row("", "aaaao0");
            read(x, 0, 0, "aaaao0");
            read(x, 6, 59, second);
            DUE.is("double by " + second, x.isDouble(0, 0, 0), second.equals("aaaao0") ? 1 : 0);
        }
        // whose they are makes no odds: the first one's price is less with the other plate
        AirZone y = row("", A);
        read(y, 0, 0, A);
        DUE.is("a single one", y.isDouble(0, 0, 0), 0);
        read(y, 6, 0, A);
        DUE.is("the second is nobody's", y.whose(1, 0), -1);
        DUE.is("double all the same", y.isDouble(0, 0, 0), 1);
    }

    // can't be by one
    private static void doubleCantBeByOne() {
        int[] gaps = {0, 59, 60, 61, 1439};
        for (int gap : gaps) {
            AirZone x = row("", A);
            read(x, 0, 0, A);
            read(x, 6, gap, A);
            DUE.is("gap " + gap, x.isDouble(0, 0, 0), gap < 60 ? 1 : 0);
            AirZone y = row("", A);
            read(y, 6, gap, A);
            read(y, 0, 0, A);
            DUE.is("told the other way, gap " + gap, y.isDouble(0, 0, 0), gap < 60 ? 1 : 0);
        }
        AirZone z = row("", A);
        read(z, 0, 0, A);
        read(z, 3, 700, A);
        read(z, 6, 1400, A);
        read(z, 5, 1400, A);
        DUE.is("the last two of four", z.isDouble(0, 0, 0), 1);
    }

    // two READINGS of the DAY that count
    private static void doubleThatCount() {
        AirZone x = row("", A);
        read(x, 0, 0, A);
        x.later(2);
        read(x, 6, 0, A);
        x.read(6, 1, 0, Due.signs(A));
        x.later(2);
        x.untell(0);
        int[] want = {0, 0, 1, 1, 0};
        for (int k = 0; k < want.length; k++) {
            DUE.is("at " + k, x.isDouble(0, 0, k), want[k]);
            DUE.is("day 1 at " + k, x.isDouble(0, 1, k), 0);
        }
        DUE.is("at the least", x.isDouble(0, 0, LEAST), 0);
    }

    // NONE if one is none
    private static void doubleNone() {
        AirZone x = row("", A);
        DUE.is("without readings", x.isDouble(0, 99, 0), 0);
        int[] bad = {-1, 100, LEAST, GREATEST};
        for (int n : bad) {
            DUE.is("plate " + n, x.isDouble(n, 0, 0), -1);
            DUE.is("day " + n, x.isDouble(0, n, 0), -1);
        }
        DUE.is("plate 1", x.isDouble(1, 0, 0), -1);
    }

    private static void stays(AirZone x, int least, int most) {
        DUE.is("at least", x.inside(0, 0, false, 0), least);
        DUE.is("at most", x.inside(0, 0, true, 0), most);
    }

    // 0 without two READINGS
    private static void withoutTwoReadings() {
        AirZone x = row("zone p0 p1;", A);
        stays(x, 0, 0);
        read(x, 0, 1439, A);
        stays(x, 0, 0);
        read(x, 0, 0, "bbbbbb");
        stays(x, 0, 0);
        x.read(0, 1, 0, Due.signs(A));
        stays(x, 0, 0);
        read(x, 1, 1000, A);
        stays(x, 20 + 10, 439);
    }

    // both P in the zone: at most g; at least g if it is less than OUT, else OUT
    private static void bothInZoneLessThanOut() {
        // from p2 by p1 to p3, or by p4: 30
        int[] gaps = {10, 29, 30, 31, 1000};
        for (int gap : gaps) {
            AirZone x = row("zone p2 p3;", A);
            read(x, 2, 0, A);
            read(x, 3, gap, A);
            stays(x, Math.min(gap, 30), gap);
        }
        AirZone y = row("zone p2 p3;", A);
        read(y, 3, 0, A);
        read(y, 3, 20, A);
        read(y, 3, 39, A);
        stays(y, 39, 39);
    }

    // (no such: beyond all g)
    private static void noPointOutside() {
        AirZone x = row("zone p0 p1 p2 p3 p4 p5 p6 p7 p8 p9 p10 p11;", A);
        read(x, 0, 0, A);
        read(x, 0, 1439, A);
        stays(x, 1439, 1439);
        // p11 lies outside, but no way leads there
        AirZone y = row("zone p0 p1 p2 p3 p4 p5 p6;", A);
        read(y, 0, 0, A);
        read(y, 1, 1439, A);
        stays(y, 1439, 1439);
        // p11 in the zone, alone
        AirZone z = row("zone p11;", A);
        read(z, 7, 0, A);
        read(z, 7, 1439, A);
        stays(z, 1439, 1439);
    }

    // Both outside: at least 0; at most 0 if g is less than IN, else g less IN
    private static void bothOutsideLessThanIn() {
        // from p2 to p4 and on to p3: 30
        int[] gaps = {10, 29, 30, 31, 1000};
        for (int gap : gaps) {
            AirZone x = row("zone p4;", A);
            read(x, 2, 0, A);
            read(x, 3, gap, A);
            stays(x, 0, Math.max(0, gap - 30));
        }
        // by the zone at p0: from p1 and back 20
        AirZone y = row("zone p0;", A);
        read(y, 1, 0, A);
        read(y, 1, 25, A);
        stays(y, 0, 5);
    }

    // By OUT, .. to a P outside the zone and on ..; IN, likewise by a P of the zone: each of the twelve
    private static void byEachPoint() {
        for (int p = 0; p < 12; p++) {
            // two P with a camera in one place of the row, p behind them
            int a = (p + 1) % 12;
            int b = (p + 2) % 12;
            String map = "way p" + a + " p" + b + " 1;way p" + b + " p" + p + " 10;camera p" + a + " from 0 to 1440;camera p" + b
                    + " from 0 to 1440;zone p";
            AirZone x = new AirZone();
            Due.map(x, map + p + ";");
            x.plate(Due.signs(A), 0);
            read(x, 0, 0, A);
            read(x, 1, 100, A);
            stays(x, 0, 100 - 21);
            AirZone y = new AirZone();
            Due.map(y, map + a + " p" + b + ";");
            y.plate(Due.signs(A), 0);
            read(y, 0, 0, A);
            read(y, 1, 100, A);
            stays(y, 21, 100);
        }
    }

    // (no such: beyond all g)
    private static void noPointInside() {
        AirZone x = row("", A);
        read(x, 2, 0, A);
        read(x, 2, 1439, A);
        stays(x, 0, 0);
        AirZone y = row("zone p11;", A);
        read(y, 2, 0, A);
        read(y, 3, 1439, A);
        stays(y, 0, 0);
    }

    // One in the zone: at least 0, at most g
    private static void oneInTheZone() {
        AirZone x = row("zone p3;", A);
        read(x, 3, 0, A);
        read(x, 2, 10, A);
        stays(x, 0, 10);
        AirZone y = row("zone p3;", A);
        read(y, 2, 0, A);
        read(y, 3, 1000, A);
        stays(y, 0, 1000);
    }

    // from its first READING (by WHOSE) to its last one
    private static void firstToLast() {
        AirZone x = row("zone p0 p1;", A);
        read(x, 0, 5, "bbbbbb");
        read(x, 0, 100, A);
        read(x, 6, 101, A);
        read(x, 0, 110, "aaaaa?");
        read(x, 0, 1439, "bbbbbb");
        // the second one at p6 can't be by the same
        DUE.is("nobody's", x.whose(2, 0), -1);
        stays(x, 10, 10);
    }

    // the sum over each READING and the next one (by MINUTES, of like ones as TOLD)
    private static void byMinutes() {
        AirZone x = row("zone p3;", A);
        read(x, 3, 200, A);
        read(x, 3, 100, A);
        read(x, 2, 300, A);
        read(x, 3, 100, A);
        read(x, 2, 350, A);
        read(x, 2, 40, A);
        // 40 p2, 100 p3, 100 p3, 200 p3, 300 p2, 350 p2: 60, 0, 100, 100, 50 - 20
        stays(x, 20, 60 + 100 + 100 + 30);
    }

    // NONE likewise (if one is none)
    private static void insideNone() {
        AirZone x = row("zone p3;", A);
        int[] bad = {-1, 100, LEAST, GREATEST};
        for (int n : bad) {
            DUE.is("plate " + n, x.inside(n, 0, true, 0), -1);
            DUE.is("day " + n, x.inside(0, n, false, 0), -1);
        }
        DUE.is("plate 1", x.inside(1, 0, false, 0), -1);
        DUE.is("day 99", x.inside(0, 99, true, 0), 0);
        read(x, 3, 0, A);
        x.later(1);
        read(x, 3, 9, A);
        DUE.is("as known before", x.inside(0, 0, true, 0), 0);
        DUE.is("as known then", x.inside(0, 0, true, 1), 9);
        DUE.is("as known never", x.inside(0, 0, true, LEAST), 0);
    }
}
