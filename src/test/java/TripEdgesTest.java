/**
 * Every sentence on TRIPS, LOAD, AROUND, VIEW and on what about() tells that names a boundary case has a
 * method of its own, with its words above it (their terms, promises 27 to 34).
 */
public final class TripEdgesTest {
    private static final Due DUE = new Due("TripEdgesTest");
    private static final int LEAST = Integer.MIN_VALUE;
    private static final int GREATEST = Integer.MAX_VALUE;

    public static void main(String[] args) {
        tripsAtMost20();
        carsValueAndClass();
        endsAreOne();
        noWayJoins();
        tripDoesNothing();
        leastCost();
        itsEndsToo();
        onceForAll();
        byEachPoint();
        ordersOfADay();
        withoutOrders();
        firstByNumber();
        likeCosts();
        withoutTheZone();
        longestWay();
        minutesNone();
        nthPoint();
        viaNone();
        firstOfLikeWays();
        loadOfAll();
        loadNone();
        aroundTouches();
        aroundNone();
        upToSoMany();
        pointWithoutACamera();
        meetNoCameraNow();
        fewestOfLikeOnes();
        leastNumber();
        viewWithTheZone();
        viewNone();
        aboutEach();
        aboutNone();
        fiveHundredAndTwelve();
        DUE.end();
    }

    private static AirZone town(String map, String orders) {
        AirZone x = new AirZone();
        DUE.holds(map, Due.map(x, map) >= 0);
        if (!orders.isEmpty()) {
            DUE.is(orders, Due.orders(x, 0, orders), 0);
        }
        return x;
    }

    private static void path(AirZone x, int trip, int day, boolean zone, int... points) {
        for (int n = 0; n < points.length; n++) {
            DUE.is("P " + n + " of trip " + trip, x.via(trip, day, zone, n), points[n]);
        }
        DUE.is("no more of trip " + trip, x.via(trip, day, zone, points.length), -1);
    }

    // TRIPS, 20 at most; NONE, doing nothing, if .. there are 20
    private static void tripsAtMost20() {
        AirZone x = town("way p0 p1 5;", "");
        for (int n = 0; n < 20; n++) {
            DUE.is("trip " + n, x.trip(0, 1, 1, 1, 0), n);
        }
        DUE.is("a 21st", x.trip(0, 1, 99, 1, 0), -1);
        DUE.is("20 there are", x.about(7), 20);
        DUE.is("the last one", x.minutes(19, 0, true), 5);
        DUE.is("no 21st", x.minutes(20, 0, true), -1);
        DUE.is("20 cars", x.load(0, 0, false), 20);
        Due.map(x, "way p0 p1 5;");
        DUE.is("room with a new map", x.trip(0, 1, 1, 1, 0), 0);
    }

    // so many cars (1 .. 99), a VALUE of a minute (1 .. 99 coins), a CLASS; NONE .. if one can't be
    private static void carsValueAndClass() {
        AirZone x = town("way p0 p1 5;", "");
        for (int bad : new int[] {0, 100, -1, LEAST, GREATEST}) {
            DUE.is("cars " + bad, x.trip(0, 1, bad, 1, 0), -1);
            DUE.is("value " + bad, x.trip(0, 1, 1, bad, 0), -1);
        }
        for (int bad : new int[] {-1, 10, LEAST, GREATEST}) {
            DUE.is("class " + bad, x.trip(0, 1, 1, 1, bad), -1);
        }
        DUE.is("all least", x.trip(0, 1, 1, 1, 0), 0);
        DUE.is("all greatest", x.trip(0, 1, 99, 99, 9), 1);
        DUE.is("their cars", x.load(0, 0, true), 100);
    }

    // from a P to another one; NONE .. its ends are one
    private static void endsAreOne() {
        AirZone x = town("way p0 p1 5;way p0 p11 5;", "");
        for (int n = 0; n < 12; n++) {
            DUE.is("from p" + n + " to itself", x.trip(n, n, 1, 1, 0), -1);
        }
        for (int bad : new int[] {12, -1, LEAST, GREATEST}) {
            DUE.is("from " + bad, x.trip(bad, 0, 1, 1, 0), -1);
            DUE.is("to " + bad, x.trip(0, bad, 1, 1, 0), -1);
        }
        DUE.is("p0 and p11", x.trip(0, 11, 1, 1, 0), 0);
        DUE.is("p11 and p0", x.trip(11, 0, 1, 1, 0), 1);
    }

    // NONE .. no way joins them
    private static void noWayJoins() {
        AirZone x = town("way p0 p1 5;way p2 p3 5;", "");
        DUE.is("two parts", x.trip(0, 2, 1, 1, 0), -1);
        DUE.is("no way there", x.trip(0, 9, 1, 1, 0), -1);
        DUE.is("no way at all", new AirZone().trip(0, 1, 1, 1, 0), -1);
        DUE.is("a way", x.trip(3, 2, 1, 1, 0), 0);
    }

    // NONE, doing nothing
    private static void tripDoesNothing() {
        AirZone x = town("way p0 p1 5;", "");
        x.trip(0, 1, 100, 1, 0);
        x.trip(0, 0, 50, 1, 0);
        x.trip(0, 2, 50, 1, 0);
        DUE.is("no trips", x.about(7), 0);
        DUE.is("no cars", x.load(0, 0, false), 0);
        DUE.is("the first number", x.trip(0, 1, 1, 1, 0), 0);
    }

    private static final String RING = "way p0 p1 5;way p1 p2 3;way p0 p3 4;way p3 p2 6;zone p1;";

    // A TRIP takes the way of least cost: minutes * VALUE, and with the zone the charge of its CLASS
    private static void leastCost() {
        // 8 minutes and the charge, or 10 minutes: of like ones that by p1
        int[] charges = {0, 13, 14, 15, 999};
        for (int charge : charges) {
            AirZone x = town(RING, "charge 4 is " + charge + ";");
            x.trip(0, 2, 1, 7, 4);
            x.trip(0, 2, 1, 7, 5);
            DUE.is("charge " + charge, x.minutes(0, 0, true), charge <= 14 ? 8 : 10);
            DUE.is("another class", x.minutes(1, 0, true), 8);
        }
        AirZone y = town(RING, "charge 9 is 199;");
        y.trip(0, 2, 1, 99, 9);
        DUE.is("198 coins for two minutes", y.minutes(0, 0, true), 10);
        AirZone z = town(RING, "charge 9 is 197;");
        z.trip(0, 2, 1, 99, 9);
        DUE.is("198 coins for two minutes", z.minutes(0, 0, true), 8);
    }

    // if it touches a P of the zone (its ends, too)
    private static void itsEndsToo() {
        AirZone x = town("way p0 p1 5;way p1 p2 3;way p0 p3 4;way p3 p2 6;zone p1 p0;", "charge 0 is 999;");
        x.trip(0, 2, 1, 1, 0);
        DUE.is("begins in the zone", x.minutes(0, 0, true), 8);
        AirZone y = town("way p0 p1 5;way p1 p2 3;way p0 p3 4;way p3 p2 6;zone p1 p2;", "charge 0 is 999;");
        y.trip(0, 2, 1, 1, 0);
        DUE.is("ends in the zone", y.minutes(0, 0, true), 8);
        DUE.is("goes by it", y.via(0, 0, true, 1), 1);
        AirZone z = town("way p0 p1 5;zone p1;", "charge 0 is 999;");
        z.trip(0, 1, 1, 1, 0);
        DUE.is("there is no other way", z.minutes(0, 0, true), 5);
        AirZone w = town("way p0 p1 5;zone p0 p1;", "charge 0 is 999;");
        DUE.is("from the zone to the zone", w.trip(0, 1, 3, 1, 0), 0);
        DUE.is("within the zone", w.minutes(0, 0, true), 5);
        DUE.is("nobody goes around", w.around(0), 0);
    }

    // the charge .. if it touches a P of the zone: once, however often
    private static void onceForAll() {
        AirZone x = town("way p0 p1 1;way p1 p2 1;way p2 p3 1;way p0 p4 5;way p4 p3 5;zone p1 p2;", "charge 0 is 6;");
        x.trip(0, 3, 1, 1, 0);
        path(x, 0, 0, true, 0, 1, 2, 3);
        AirZone y = town("way p0 p1 1;way p1 p2 1;way p2 p3 1;way p0 p4 5;way p4 p3 5;zone p1 p2;", "charge 0 is 8;");
        y.trip(0, 3, 1, 1, 0);
        path(y, 0, 0, true, 0, 4, 3);
        // out of the zone at p2 and in again at p3: all is paid at p1
        AirZone z = town("way p0 p1 1;way p1 p2 1;way p2 p3 1;way p3 p4 1;way p2 p5 1;way p5 p4 2;zone p1 p3;", "charge 0 is 99;");
        z.trip(0, 4, 1, 1, 0);
        path(z, 0, 0, true, 0, 1, 2, 3, 4);
        DUE.is("minutes", z.minutes(0, 0, true), 4);
    }

    // if it touches a P of the zone: each of the twelve
    private static void byEachPoint() {
        for (int p = 2; p < 12; p++) {
            int q = p == 11 ? 10 : 11;
            String map = "way p0 p" + p + " 1;way p" + p + " p1 1;way p0 p" + q + " 5;way p" + q + " p1 5;zone p" + p + ";";
            AirZone x = town(map, "charge 0 is 7;charge 1 is 9;");
            x.trip(0, 1, 1, 1, 0);
            x.trip(0, 1, 1, 1, 1);
            path(x, 0, 0, true, 0, p, 1);
            path(x, 1, 0, true, 0, q, 1);
        }
    }

    // (by orders of a DAY)
    private static void ordersOfADay() {
        AirZone x = town(RING, "");
        Due.orders(x, 10, "charge 0 is 99;");
        Due.orders(x, 20, "charge 1 is 99;");
        x.trip(0, 2, 1, 1, 0);
        int[] days = {0, 9, 10, 19, 20, 99};
        int[] want = {8, 8, 10, 10, 8, 8};
        for (int n = 0; n < days.length; n++) {
            DUE.is("on day " + days[n], x.minutes(0, days[n], true), want[n]);
            DUE.is("without the zone", x.minutes(0, days[n], false), 8);
        }
    }

    // without any .. all .. charges are 0; what they do not tell: .. charge 0
    private static void withoutOrders() {
        // like ways by p1 in the zone and by p3: a charge of one coin turns all to p3
        AirZone x = town("way p0 p1 5;way p1 p2 3;way p0 p3 4;way p3 p2 4;zone p1;", "");
        for (int number = 0; number <= 9; number++) {
            x.trip(0, 2, 1, 1, number);
            path(x, number, 0, true, 0, 1, 2);
        }
        Due.orders(x, 10, "charge 3 is 1;");
        for (int number = 0; number <= 9; number++) {
            DUE.is("ahead of all orders, class " + number, x.via(number, 9, true, 1), 1);
            DUE.is("by orders, class " + number, x.via(number, 10, true, 1), number == 3 ? 3 : 1);
        }
        DUE.is("none goes around", x.around(9), 0);
        DUE.is("one goes around", x.around(10), 1);
    }

    // of like ones that by the P that are first by number, one by one
    private static void firstByNumber() {
        AirZone x = town("way p0 p5 1;way p5 p11 3;way p0 p4 2;way p4 p11 2;way p0 p11 4;way p4 p10 1;way p10 p11 1;", "");
        x.trip(0, 11, 1, 1, 0);
        x.trip(11, 0, 1, 1, 0);
        path(x, 0, 0, false, 0, 4, 10, 11);
        path(x, 1, 0, false, 11, 0);
        AirZone y = town("way p11 p2 1;way p2 p9 3;way p9 p0 1;way p11 p3 1;way p3 p1 3;way p1 p0 1;", "");
        y.trip(11, 0, 1, 1, 0);
        path(y, 0, 0, false, 11, 2, 9, 0);
    }

    // of like ones: costs, not minutes
    private static void likeCosts() {
        AirZone x = town("way p0 p1 5;way p1 p4 5;way p0 p2 3;way p2 p4 3;zone p2;", "charge 0 is 4;");
        x.trip(0, 4, 1, 1, 0);
        path(x, 0, 0, true, 0, 1, 4);
        DUE.is("minutes", x.minutes(0, 0, true), 10);
        AirZone y = town("way p0 p2 5;way p2 p4 5;way p0 p1 3;way p1 p4 3;zone p1;", "charge 0 is 4;");
        y.trip(0, 4, 1, 1, 0);
        path(y, 0, 0, true, 0, 1, 4);
        DUE.is("minutes", y.minutes(0, 0, true), 6);
    }

    // Without the zone: minutes * VALUE alone
    private static void withoutTheZone() {
        AirZone x = town(RING, "charge 0 is 999;");
        x.trip(0, 2, 1, 1, 0);
        path(x, 0, 0, false, 0, 1, 2);
        path(x, 0, 0, true, 0, 3, 2);
        DUE.is("minutes", x.minutes(0, 0, false), 8);
    }

    // P .. 0 .. 11: a way by all of them
    private static void longestWay() {
        StringBuilder row = new StringBuilder("zone p6;");
        for (int n = 0; n < 11; n++) {
            row.append("way p").append(n).append(" p").append(n + 1).append(" 99;");
        }
        AirZone x = town(row.toString(), "charge 0 is 999;");
        x.trip(11, 0, 99, 99, 0);
        path(x, 0, 0, true, 11, 10, 9, 8, 7, 6, 5, 4, 3, 2, 1, 0);
        path(x, 0, 0, false, 11, 10, 9, 8, 7, 6, 5, 4, 3, 2, 1, 0);
        DUE.is("minutes", x.minutes(0, 0, true), 1089);
        DUE.is("the last way", x.load(10, 0, true), 99);
        DUE.is("the first way", x.load(0, 0, true), 99);
    }

    // NONE if there is none such
    private static void minutesNone() {
        AirZone x = town("way p0 p1 5;", "");
        DUE.is("no trips", x.minutes(0, 0, true), -1);
        x.trip(0, 1, 1, 1, 0);
        for (int bad : new int[] {-1, 1, 20, LEAST, GREATEST}) {
            DUE.is("trip " + bad, x.minutes(bad, 0, true), -1);
            DUE.is("trip " + bad, x.minutes(bad, 0, false), -1);
        }
        for (int bad : new int[] {-1, 100, LEAST, GREATEST}) {
            DUE.is("day " + bad, x.minutes(0, bad, true), -1);
        }
        DUE.is("day 99", x.minutes(0, 99, true), 5);
    }

    // The n-th P of it (0: where it begins)
    private static void nthPoint() {
        AirZone x = town("way p7 p3 5;way p3 p9 5;", "");
        x.trip(7, 9, 1, 1, 0);
        DUE.is("where it begins", x.via(0, 0, true, 0), 7);
        DUE.is("the next one", x.via(0, 0, true, 1), 3);
        DUE.is("where it ends", x.via(0, 0, true, 2), 9);
    }

    // NONE if there is none such
    private static void viaNone() {
        AirZone x = town("way p7 p3 5;way p3 p9 5;", "");
        DUE.is("no trips", x.via(0, 0, false, 0), -1);
        x.trip(7, 9, 1, 1, 0);
        for (int bad : new int[] {-1, 3, 11, 12, LEAST, GREATEST}) {
            DUE.is("P " + bad, x.via(0, 0, true, bad), -1);
        }
        for (int bad : new int[] {-1, 1, 20, LEAST, GREATEST}) {
            DUE.is("trip " + bad, x.via(bad, 0, true, 0), -1);
        }
        for (int bad : new int[] {-1, 100, LEAST, GREATEST}) {
            DUE.is("day " + bad, x.via(0, bad, true, 0), -1);
        }
    }

    // (by the first told of like WAYS between two P that is the shortest)
    private static void firstOfLikeWays() {
        AirZone x = town("way p0 p1 6;way p1 p0 5;way p0 p1 5;way p0 p1 4;way p1 p0 4;way p0 p1 99;", "");
        x.trip(0, 1, 10, 1, 0);
        x.trip(1, 0, 3, 1, 0);
        int[] want = {0, 0, 0, 13, 0, 0};
        for (int way = 0; way < 6; way++) {
            DUE.is("load of way " + way, x.load(way, 0, true), want[way]);
        }
    }

    // LOAD of a WAY: cars that go by it
    private static void loadOfAll() {
        AirZone x = town(RING, "charge 0 is 999;");
        for (int n = 0; n < 20; n++) {
            x.trip(n % 2 * 2, 2 - n % 2 * 2, 99, 1, 0);
        }
        int[] with = {0, 0, 1980, 1980};
        for (int way = 0; way < 4; way++) {
            DUE.is("with the zone", x.load(way, 0, true), with[way]);
            DUE.is("without", x.load(way, 0, false), 1980 - with[way]);
        }
    }

    // NONE likewise
    private static void loadNone() {
        AirZone x = town("way p0 p1 5;", "");
        DUE.is("without trips", x.load(0, 99, true), 0);
        for (int bad : new int[] {-1, 1, 24, LEAST, GREATEST}) {
            DUE.is("way " + bad, x.load(bad, 0, true), -1);
        }
        for (int bad : new int[] {-1, 100, LEAST, GREATEST}) {
            DUE.is("day " + bad, x.load(0, bad, true), -1);
        }
    }

    // AROUND: cars whose way touches the zone without it, and not with it
    private static void aroundTouches() {
        AirZone x = town(RING + "way p4 p5 1;way p1 p6 1;", "charge 0 is 999;charge 1 is 1;");
        x.trip(0, 2, 1, 1, 0);
        x.trip(2, 0, 2, 1, 0);
        x.trip(0, 2, 4, 1, 1);
        x.trip(0, 1, 8, 1, 0);
        x.trip(1, 2, 16, 1, 0);
        x.trip(4, 5, 32, 1, 0);
        x.trip(0, 6, 64, 1, 0);
        DUE.is("around", x.around(0), 3);
        AirZone y = town("way p0 p1 5;way p1 p2 3;way p0 p3 4;way p3 p2 6;", "charge 0 is 999;");
        y.trip(0, 2, 1, 1, 0);
        DUE.is("no zone", y.around(0), 0);
        AirZone z = town(RING, "");
        z.trip(0, 2, 1, 1, 0);
        DUE.is("no orders", z.around(99), 0);
    }

    // NONE if there is no such DAY
    private static void aroundNone() {
        AirZone x = new AirZone();
        for (int bad : new int[] {-1, 100, LEAST, GREATEST}) {
            DUE.is("day " + bad, x.around(bad), -1);
        }
        DUE.is("day 99", x.around(99), 0);
        DUE.is("day 0", x.around(0), 0);
    }

    private static final String PAIRS = "way p0 p1 1;way p2 p3 1;way p4 p5 1;way p6 p7 1;";

    // VIEW: up to so many (0 .. 3) new CAMERAS
    private static void upToSoMany() {
        AirZone x = town(PAIRS, "");
        int[] cars = {1, 8, 4, 2};
        for (int n = 0; n < 4; n++) {
            x.trip(2 * n, 2 * n + 1, cars[n], 1, 0);
        }
        int[] view = {0, 1 << 2, 1 << 2 | 1 << 4, 1 << 2 | 1 << 4 | 1 << 6};
        int[] seen = {0, 8, 12, 14};
        for (int most = 3; most >= 0; most--) {
            DUE.is("view of " + most, x.view(0, most), view[most]);
            DUE.is("seen by " + most, x.seen(0, most), seen[most]);
        }
        AirZone y = town("way p10 p11 1;", "");
        y.trip(11, 10, 99, 1, 0);
        DUE.is("p10", y.view(0, 1), 1 << 10);
        DUE.is("none again", y.view(0, 0), 0);
        DUE.is("none see none", y.seen(0, 0), 0);
    }

    // one at a P without one
    private static void pointWithoutACamera() {
        AirZone x = town("way p0 p1 1;way p1 p2 1;camera p0 from 0 to 1;", "");
        x.trip(1, 2, 5, 1, 0);
        DUE.is("p1, as p0 has one", x.view(0, 1), 1 << 1);
        AirZone y = town("way p0 p1 1;camera p0 from 0 to 1;", "");
        y.trip(0, 1, 5, 1, 0);
        DUE.is("none to see", y.view(0, 3), 0);
        StringBuilder full = new StringBuilder("way p0 p8 1;way p8 p9 1;");
        for (int n = 0; n < 8; n++) {
            full.append("camera p").append(n).append(" from 0 to 1;");
        }
        AirZone z = town(full.toString(), "");
        z.trip(8, 9, 5, 1, 0);
        DUE.is("a ninth one", z.view(0, 1), 1 << 8);
        DUE.is("it sees five", z.seen(0, 1), 5);
    }

    // cars of TRIPS .. that meet no P with a CAMERA now
    private static void meetNoCameraNow() {
        AirZone x = town("way p0 p1 1;way p1 p2 1;way p3 p1 1;camera p2 from 700 to 701;", "");
        x.trip(0, 2, 90, 1, 0);
        x.trip(0, 1, 3, 1, 0);
        x.trip(3, 1, 4, 1, 0);
        DUE.is("by p1", x.view(0, 1), 1 << 1);
        DUE.is("seven of them", x.seen(0, 1), 7);
    }

    // the fewest of like ones
    private static void fewestOfLikeOnes() {
        AirZone x = town("way p0 p9 1;way p1 p9 1;way p2 p9 1;", "");
        for (int n = 0; n < 3; n++) {
            x.trip(n, 9, 5, 1, 0);
        }
        for (int most = 1; most <= 3; most++) {
            DUE.is("one of " + most, x.view(0, most), 1 << 9);
            DUE.is("sees all", x.seen(0, most), 15);
        }
        DUE.is("none where there are no trips", town(PAIRS, "").view(0, 3), 0);
    }

    // then the least number (as bits of P)
    private static void leastNumber() {
        AirZone x = town("way p11 p5 1;way p5 p7 1;", "");
        x.trip(11, 7, 5, 1, 0);
        DUE.is("p5 of p5, p7, p11", x.view(0, 2), 1 << 5);
        AirZone y = town(PAIRS, "");
        for (int n = 0; n < 4; n++) {
            y.trip(2 * n + 1, 2 * n, 5, 1, 0);
        }
        DUE.is("p0", y.view(0, 1), 1);
        DUE.is("p0, p2", y.view(0, 2), 5);
        DUE.is("p0, p2, p4", y.view(0, 3), 21);
    }

    // by which the most cars of TRIPS, with the zone
    private static void viewWithTheZone() {
        AirZone x = town(RING, "");
        Due.orders(x, 1, "charge 0 is 999;");
        x.trip(0, 2, 5, 1, 0);
        x.trip(3, 0, 4, 1, 0);
        x.trip(3, 2, 4, 1, 0);
        DUE.is("ahead of the orders", x.view(0, 1), 1);
        DUE.is("nine", x.seen(0, 1), 9);
        DUE.is("by the orders", x.view(1, 1), 1 << 3);
        DUE.is("all of them", x.seen(1, 1), 13);
    }

    // NONE if it can't be told
    private static void viewNone() {
        AirZone x = town(PAIRS, "");
        x.trip(0, 1, 5, 1, 0);
        for (int bad : new int[] {-1, 100, LEAST, GREATEST}) {
            DUE.is("view of day " + bad, x.view(bad, 1), -1);
            DUE.is("seen of day " + bad, x.seen(bad, 1), -1);
        }
        for (int bad : new int[] {-1, 4, LEAST, GREATEST}) {
            DUE.is("view of " + bad, x.view(0, bad), -1);
            DUE.is("seen by " + bad, x.seen(0, bad), -1);
        }
        DUE.is("day 99", x.view(99, 3), 1);
        DUE.is("day 99", x.seen(99, 3), 5);
    }

    // What 0: WAYS, 1: P of the zone, 2: CAMERAS, 3: ORDERS, 4: PLATES, 5: FACTS, 6: the TIME, 7: TRIPS,
    // 8: values of AIR, 9: bytes on the TAPE
    private static void aboutEach() {
        AirZone x = town("way p0 p1 5;way p0 p1 5;way p0 p1 5;zone p5 p6;camera p0 from 0 to 1440;", "grace 1;");
        abouts(x, 3, 2, 1, 1, 0, 0, 0, 0, 0, 0);
        x.plate(Due.signs("aaaaaa"), 0);
        x.appeal(0, 0);
        x.read(0, 0, 0, Due.signs("aaaaaa"));
        x.papers(0, 0, 0, 0, 0, 0);
        x.later(8);
        x.untell(0);
        x.trip(0, 1, 1, 1, 0);
        x.trip(0, 1, 1, 1, 0);
        x.air(1, 1, 1, 1);
        x.feed(0, 0, 0, 0, 0);
        x.end(19);
        abouts(x, 3, 2, 1, 1, 1, 3, 8, 2, 1, 19);
        x.end(0);
        x.map();
        abouts(x, 0, 0, 0, 1, 1, 3, 8, 0, 1, 0);
    }

    private static void abouts(AirZone x, int... want) {
        for (int what = 0; what < want.length; what++) {
            DUE.is("about(" + what + ")", x.about(what), want[what]);
        }
    }

    // NONE for another what
    private static void aboutNone() {
        AirZone x = new AirZone();
        for (int bad : new int[] {-1, 10, 11, LEAST, GREATEST}) {
            DUE.is("about(" + bad + ")", x.about(bad), -1);
        }
    }

    // An object is used for at most 512 calls
    private static void fiveHundredAndTwelve() {
        AirZone x = new AirZone();
        for (int n = 1; n < 512; n++) {
            x.feed(0x20202020, 0x20202020, 0x20202020, 0x20202020, 0x20202020);
        }
        DUE.is("the 512th", x.about(9), 900);
        AirZone y = new AirZone();
        for (int n = 0; n < 510; n++) {
            y.plate(Due.signs("aaaaaa"), 0);
            y.map();
        }
        DUE.is("one plate", y.about(4), 1);
    }
}
