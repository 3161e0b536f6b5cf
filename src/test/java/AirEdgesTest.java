/**
 * Every sentence on AIR, EFFECT and DOUBT that names a boundary case has a method of its own, with its
 * words above it (their terms, promises 24 to 26).
 */
public final class AirEdgesTest {
    private static final Due DUE = new Due("AirEdgesTest");
    private static final int LEAST = Integer.MIN_VALUE;
    private static final int GREATEST = Integer.MAX_VALUE;

    public static void main(String[] args) {
        valuesUpTo120();
        valueBounds();
        siteDayAndWind();
        toldOnce();
        nothingIsDone();
        bothAreTold();
        withTheSameWind();
        beforeADayAndFromItOn();
        firstWithFirst();
        atMost12();
        gainOfAPair();
        asMuchOrMore();
        bySize();
        withoutGains();
        effectNone();
        doubtNone();
        DUE.end();
    }

    private static void both(AirZone x, int day, int wind, int zone, int other) {
        DUE.holds("the zone's value", x.air(0, day, wind, zone) > 0);
        DUE.holds("the other's value", x.air(1, day, wind, other) > 0);
    }

    // up to 120 values; NONE, doing nothing, if .. there are 120
    private static void valuesUpTo120() {
        AirZone x = new AirZone();
        for (int n = 0; n < 120; n++) {
            DUE.is("value " + n, x.air(n % 2, n / 2, 0, n < 60 ? 9 * (1 - n % 2) : 0), n + 1);
        }
        DUE.is("a 121st", x.air(0, 99, 0, 999), -1);
        DUE.is("a 121st", x.air(1, 60, 3, 0), -1);
        DUE.is("120 there are", x.about(8), 120);
        DUE.is("the last ones count", x.doubtOf(59, 1), 2);
        DUE.is("those ahead of day 30 are 9 more", x.effect(30), 12 * 9);
    }

    // values (0 .. 999)
    private static void valueBounds() {
        AirZone x = new AirZone();
        int[] bad = {-1, 1000, LEAST, GREATEST};
        for (int value : bad) {
            DUE.is("value " + value, x.air(0, 0, 0, value), -1);
        }
        both(x, 0, 0, 999, 0);
        both(x, 1, 0, 0, 999);
        DUE.is("the greatest gain", x.effect(1), 1998);
    }

    // of a site (0 .., 1 ..), a DAY, a wind (0 .. 3)
    private static void siteDayAndWind() {
        AirZone x = new AirZone();
        for (int bad : new int[] {-1, 2, LEAST, GREATEST}) {
            DUE.is("site " + bad, x.air(bad, 0, 0, 0), -1);
        }
        for (int bad : new int[] {-1, 100, LEAST, GREATEST}) {
            DUE.is("day " + bad, x.air(0, bad, 0, 0), -1);
        }
        for (int bad : new int[] {-1, 4, LEAST, GREATEST}) {
            DUE.is("wind " + bad, x.air(0, 0, bad, 0), -1);
        }
        for (int wind = 0; wind < 4; wind++) {
            both(x, wind, wind, 10, 0);
            both(x, 99 - wind, wind, 0, 0);
            DUE.is("pairs", x.effect(50), 10 * (wind + 1));
        }
    }

    // told once for each site and DAY; NONE .. it was told
    private static void toldOnce() {
        AirZone x = new AirZone();
        DUE.is("told", x.air(0, 5, 1, 9), 1);
        DUE.is("told again", x.air(0, 5, 1, 9), -1);
        DUE.is("with another wind", x.air(0, 5, 2, 8), -1);
        DUE.is("of the other site", x.air(1, 5, 1, 3), 2);
        DUE.is("of that again", x.air(1, 5, 0, 0), -1);
        DUE.is("of another day", x.air(0, 6, 1, 4), 3);
        DUE.is("of another day", x.air(1, 6, 1, 1), 4);
        DUE.is("the first told stays", x.effect(6), 9 - 3 - (4 - 1));
    }

    // NONE, doing nothing, if one can't be
    private static void nothingIsDone() {
        AirZone x = new AirZone();
        x.air(0, 5, 1, 1000);
        x.air(0, 5, 4, 9);
        x.air(2, 5, 1, 9);
        DUE.is("none there are", x.about(8), 0);
        DUE.is("not told yet", x.air(0, 5, 1, 9), 1);
    }

    // DAYS on which both are told
    private static void bothAreTold() {
        AirZone x = new AirZone();
        x.air(0, 1, 0, 9);
        both(x, 9, 0, 0, 0);
        DUE.is("one alone before", x.effect(5), 0);
        x.air(1, 1, 0, 0);
        DUE.is("both before", x.effect(5), 9);
        AirZone y = new AirZone();
        both(y, 1, 0, 9, 0);
        y.air(1, 9, 0, 0);
        DUE.is("one alone behind", y.doubtOf(5, 1), 1);
        y.air(0, 9, 0, 0);
        DUE.is("both behind", y.doubtOf(5, 1), 2);
    }

    // with the same wind
    private static void withTheSameWind() {
        AirZone x = new AirZone();
        both(x, 0, 0, 9, 0);
        both(x, 9, 1, 0, 0);
        DUE.is("another wind behind", x.doubtOf(5, 1), 1);
        both(x, 10, 0, 2, 0);
        DUE.is("the same wind behind", x.effect(5), 7);
        x.air(0, 1, 2, 9);
        x.air(1, 1, 3, 0);
        both(x, 11, 2, 0, 0);
        both(x, 12, 3, 0, 0);
        DUE.is("two winds on a day", x.effect(5), 7);
    }

    // before a DAY and from it on
    private static void beforeADayAndFromItOn() {
        AirZone x = new AirZone();
        both(x, 0, 0, 1, 0);
        both(x, 50, 0, 20, 0);
        both(x, 99, 0, 300, 0);
        int[] days = {0, 1, 50, 51, 99};
        int[] want = {0, 1 - 20, 1 - 20, 1 - 300, 1 - 300};
        int[] ways = {1, 2, 2, 2, 2};
        for (int n = 0; n < days.length; n++) {
            DUE.is("effect of day " + days[n], x.effect(days[n]), want[n]);
            DUE.is("ways of day " + days[n], x.doubtOf(days[n], 1), ways[n]);
        }
    }

    // the first with the first, and so on
    private static void firstWithFirst() {
        AirZone x = new AirZone();
        both(x, 2, 0, 100, 0);
        both(x, 1, 0, 10, 0);
        both(x, 0, 0, 1, 0);
        both(x, 12, 0, 4, 0);
        both(x, 11, 0, 2, 0);
        DUE.is("three before, two behind", x.effect(5), 1 - 2 + 10 - 4);
        DUE.is("two pairs", x.doubtOf(5, 1), 4);
        DUE.is("one before, four behind", x.effect(1), 1 - 10);
        DUE.is("four before, one behind", x.effect(12), 1 - 4);
    }

    // at most 12 in all (by wind 0 .. 3)
    private static void atMost12() {
        AirZone x = new AirZone();
        for (int n = 0; n < 12; n++) {
            both(x, n, 0, 1, 0);
            both(x, 50 + n, 0, 0, 0);
            DUE.is("pairs " + n, x.effect(50), n + 1);
            DUE.is("ways " + n, x.doubtOf(50, 1), 2 << n);
        }
        both(x, 12, 0, 1, 0);
        both(x, 62, 0, 0, 0);
        DUE.is("a 13th", x.effect(50), 12);
        both(x, 13, 1, 100, 0);
        both(x, 63, 1, 0, 0);
        DUE.is("another wind has no room", x.effect(50), 12);
        DUE.is("ways of 12", x.doubtOf(50, 1), 4096);
        DUE.is("doubt of 12", x.doubtOf(50, 0), 2);
        AirZone y = new AirZone();
        for (int n = 0; n < 16; n++) {
            both(y, n, 3 - n / 4, n / 4 == 0 ? 500 : 1, 0);
            if (n < 14) {
                both(y, 50 + n, 3 - n / 4, 0, 0);
            }
        }
        // wind 3: 4 pairs, 2: 4, 1: 4, 0: 2 pairs; by winds 0, 1, 2 ten, and two of wind 3
        DUE.is("the least winds first", y.effect(50), 10 + 2 * 500);
    }

    // GAIN of a pair: (zone less other one) before less (zone less other one) behind
    private static void gainOfAPair() {
        AirZone x = new AirZone();
        both(x, 0, 0, 700, 50);
        both(x, 1, 0, 200, 13);
        DUE.is("gain", x.effect(1), 700 - 50 - (200 - 13));
        AirZone y = new AirZone();
        both(y, 0, 0, 0, 999);
        both(y, 1, 0, 999, 0);
        DUE.is("the greatest loss", y.effect(1), -1998);
        DUE.is("its doubt", y.doubtOf(1, 0), 2);
    }

    // DOUBT: of all ways to turn signs of GAINS how many come to as much or more
    private static void asMuchOrMore() {
        AirZone x = new AirZone();
        int[] gains = {4, 3, 1};
        for (int n = 0; n < 3; n++) {
            both(x, n, 0, gains[n], 0);
            both(x, 50 + n, 0, 0, 0);
        }
        // 8 of both signs
        DUE.is("effect", x.effect(50), 8);
        DUE.is("all as they are, or all turned", x.doubtOf(50, 0), 2);
        AirZone y = new AirZone();
        for (int n = 0; n < 3; n++) {
            both(y, n, 0, n == 2 ? 0 : gains[n], n == 2 ? 1 : 0);
            both(y, 50 + n, 0, 0, 0);
        }
        // 4 + 3 - 1 is 6: as much 6 or more 8, of both signs
        DUE.is("effect", y.effect(50), 6);
        DUE.is("as much or more", y.doubtOf(50, 0), 4);
        AirZone z = new AirZone();
        both(z, 0, 0, 5, 0);
        both(z, 1, 0, 0, 0);
        both(z, 50, 0, 0, 0);
        both(z, 51, 0, 0, 0);
        DUE.is("a gain of 0 has two signs", z.doubtOf(50, 0), 4);
    }

    // (sum by its size, without sign)
    private static void bySize() {
        AirZone x = new AirZone();
        both(x, 0, 0, 0, 4);
        both(x, 1, 0, 0, 3);
        both(x, 50, 0, 0, 0);
        both(x, 51, 0, 0, 0);
        DUE.is("below 0", x.effect(50), -7);
        DUE.is("7 as well as -7", x.doubtOf(50, 0), 2);
        AirZone y = new AirZone();
        both(y, 0, 0, 4, 0);
        both(y, 1, 0, 0, 4);
        both(y, 50, 0, 0, 0);
        both(y, 51, 0, 0, 0);
        DUE.is("nothing in all", y.effect(50), 0);
        DUE.is("all come to 0 or more", y.doubtOf(50, 0), 4);
    }

    // EFFECT: all GAINS (there may be none)
    private static void withoutGains() {
        AirZone x = new AirZone();
        for (int day = 0; day < 100; day += 33) {
            DUE.is("effect", x.effect(day), 0);
            DUE.is("doubt", x.doubtOf(day, 0), 1);
            DUE.is("ways", x.doubtOf(day, 1), 1);
        }
    }

    // -1000000 if there is no such DAY
    private static void effectNone() {
        AirZone x = new AirZone();
        int[] bad = {-1, 100, LEAST, GREATEST};
        for (int day : bad) {
            DUE.is("effect of day " + day, x.effect(day), -1000000);
        }
        DUE.is("day 99", x.effect(99), 0);
    }

    // DOUBT (what 0), or how many ways there are (1); NONE for others, or likewise
    private static void doubtNone() {
        AirZone x = new AirZone();
        int[] days = {-1, 100, LEAST, GREATEST};
        for (int day : days) {
            DUE.is("doubt of day " + day, x.doubtOf(day, 0), -1);
            DUE.is("ways of day " + day, x.doubtOf(day, 1), -1);
        }
        int[] others = {-1, 2, LEAST, GREATEST};
        for (int what : others) {
            DUE.is("what " + what, x.doubtOf(0, what), -1);
        }
        DUE.is("day 99", x.doubtOf(99, 0), 1);
    }
}
