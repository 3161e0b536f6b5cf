/** Promises 24 to 26: values of AIR, EFFECT, DOUBT. */
public final class AirTest {
    private static final Due DUE = new Due("AirTest");

    public static void main(String[] args) {
        values();
        pairs();
        twelve();
        doubt();
        DUE.end();
    }

    private static void values() {
        AirZone x = new AirZone();
        int[][] bad = {{2, 0, 0, 0}, {-1, 0, 0, 0}, {0, -1, 0, 0}, {0, 100, 0, 0}, {0, 0, -1, 0}, {0, 0, 4, 0},
            {0, 0, 0, -1}, {0, 0, 0, 1000}, {Integer.MAX_VALUE, Integer.MIN_VALUE, 0, 0}};
        for (int[] b : bad) {
            DUE.is("one that can't be", x.air(b[0], b[1], b[2], b[3]), -1);
        }
        DUE.is("the least", x.air(0, 0, 0, 0), 1);
        DUE.is("told", x.air(0, 0, 1, 5), -1);
        DUE.is("the other site", x.air(1, 0, 3, 999), 2);
        DUE.is("another day", x.air(0, 99, 0, 0), 3);
        for (int n = 0; n < 98; n++) {
            DUE.is("value", x.air(0, n + 1, 0, 0), 4 + n);
        }
        for (int n = 0; n < 19; n++) {
            DUE.is("value", x.air(1, n + 1, 0, 0), 102 + n);
        }
        DUE.is("a 121st", x.air(1, 50, 0, 0), -1);
        DUE.is("120 there are", x.about(8), 120);
    }

    private static void both(AirZone x, int day, int wind, int zone, int other) {
        DUE.holds("the zone's", x.air(0, day, wind, zone) > 0);
        DUE.holds("the other's", x.air(1, day, wind, other) > 0);
    }

    private static void pairs() {
        AirZone x = new AirZone();
        both(x, 12, 1, 10, 7);
        both(x, 4, 1, 100, 50);
        both(x, 2, 1, 20, 5);
        both(x, 11, 1, 30, 10);
        both(x, 10, 1, 40, 1);
        // before: 15 (day 2), 50 (day 4); behind: 39 (day 10), 20, 3
        DUE.is("the first with the first", x.effect(10), 15 - 39 + 50 - 20);
        DUE.is("a day is behind from it on", x.effect(11), 15 - 20 + 50 - 3);
        DUE.is("a day", x.effect(5), 15 - 39 + 50 - 20);
        DUE.is("a day", x.effect(12), 15 - 3);
        DUE.is("nothing behind", x.effect(13), 0);
        DUE.is("nothing before", x.effect(2), 0);
        DUE.is("one before", x.effect(3), 15 - 50);
        x.air(0, 0, 1, 999);
        DUE.is("one is not told", x.effect(10), 15 - 39 + 50 - 20);
        x.air(1, 0, 2, 0);
        DUE.is("winds are not the same", x.effect(10), 15 - 39 + 50 - 20);
        both(x, 1, 0, 8, 3);
        DUE.is("no such wind behind", x.effect(10), 15 - 39 + 50 - 20);
        both(x, 20, 0, 8, 4);
        DUE.is("wind by wind", x.effect(10), 15 - 39 + 50 - 20 + 1);
        DUE.is("how many ways", x.doubtOf(10, 1), 8);
        DUE.is("no day -1", x.effect(-1), -1000000);
        DUE.is("no day 100", x.effect(100), -1000000);
        DUE.is("day 99", x.effect(99), 0);
    }

    private static void twelve() {
        AirZone x = new AirZone();
        for (int n = 0; n < 7; n++) {
            both(x, n, 3, 100, 0);
            both(x, 50 + n, 3, 0, 0);
            both(x, 20 + n, 1, 1, 0);
            both(x, 70 + n, 1, 0, 0);
        }
        DUE.is("7 of wind 1, 5 of wind 3", x.effect(40), 7 + 500);
        DUE.is("ways of 12", x.doubtOf(40, 1), 4096);
        // five of 100 must have one sign: at least as much with the seven at their most
        DUE.is("doubt of 12", x.doubtOf(40, 0), 2);
    }

    private static void doubt() {
        AirZone x = new AirZone();
        DUE.is("no gains", x.doubtOf(0, 0), 1);
        DUE.is("one way", x.doubtOf(0, 1), 1);
        int[] gains = {5, -3, 2, 0};
        for (int n = 0; n < 4; n++) {
            both(x, n, 0, 10 + gains[n], 0);
            both(x, 50 + n, 0, 10, 0);
        }
        DUE.is("ways before all else", x.doubtOf(30, 1), 16);
        DUE.is("effect", x.effect(30), 4);
        DUE.is("one of day 1", x.doubtOf(1, 1), 2);
        int want = 0;
        for (int way = 0; way < 16; way++) {
            int sum = 0;
            for (int n = 0; n < 4; n++) {
                sum += (way >> n & 1) == 1 ? -gains[n] : gains[n];
            }
            want += Math.abs(sum) >= 4 ? 1 : 0;
        }
        DUE.is("doubt of day 1", x.doubtOf(1, 0), 2);
        DUE.is("doubt", x.doubtOf(30, 0), want);
        DUE.is("ways", x.doubtOf(30, 1), 16);
        DUE.is("no what 2", x.doubtOf(30, 2), -1);
        DUE.is("no what -1", x.doubtOf(30, -1), -1);
        DUE.is("no day -1", x.doubtOf(-1, 0), -1);
        DUE.is("no day 100", x.doubtOf(100, 1), -1);
        AirZone y = new AirZone();
        both(y, 0, 0, 5, 0);
        both(y, 1, 0, 5, 0);
        both(y, 50, 0, 9, 0);
        both(y, 51, 0, 8, 0);
        DUE.is("a loss", y.effect(30), -7);
        DUE.is("its size counts", y.doubtOf(30, 0), 2);
    }
}
