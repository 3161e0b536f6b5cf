/** Promises 27 to 33: TRIPS, their ways, LOAD, AROUND, VIEW. */
public final class TripTest {
    private static final Due DUE = new Due("TripTest");

    public static void main(String[] args) {
        trips();
        cheapest();
        firstByNumber();
        likeCosts();
        loads();
        around();
        views();
        DUE.end();
    }

    private static void trips() {
        AirZone x = new AirZone();
        DUE.is("without ways", x.trip(0, 1, 1, 1, 0), -1);
        Due.map(x, "way p0 p1 5;way p10 p11 5;");
        int[][] bad = {{0, 0, 1, 1, 0}, {0, 10, 1, 1, 0}, {0, 12, 1, 1, 0}, {-1, 0, 1, 1, 0}, {0, 1, 0, 1, 0},
            {0, 1, 100, 1, 0}, {0, 1, 1, 0, 0}, {0, 1, 1, 100, 0}, {0, 1, 1, 1, -1}, {0, 1, 1, 1, 10}, {5, 5, 1, 1, 0},
            {Integer.MAX_VALUE, Integer.MIN_VALUE, 1, 1, 0}};
        for (int[] b : bad) {
            DUE.is("one that can't be", x.trip(b[0], b[1], b[2], b[3], b[4]), -1);
        }
        DUE.is("none came", x.about(7), 0);
        DUE.is("the least", x.trip(0, 1, 1, 1, 0), 0);
        DUE.is("the greatest", x.trip(11, 10, 99, 99, 9), 1);
        for (int n = 2; n < 20; n++) {
            DUE.is("trip " + n, x.trip(1, 0, 1, 1, 1), n);
        }
        DUE.is("a 21st", x.trip(0, 1, 1, 1, 0), -1);
        DUE.is("minutes", x.minutes(1, 0, true), 5);
        DUE.is("no trip 20", x.minutes(20, 0, true), -1);
        DUE.is("no trip -1", x.minutes(-1, 0, true), -1);
        DUE.is("no day 100", x.minutes(0, 100, true), -1);
        DUE.is("no day -1", x.minutes(0, -1, false), -1);
        DUE.is("via 0", x.via(1, 0, false, 0), 11);
        DUE.is("via 1", x.via(1, 0, false, 1), 10);
        DUE.is("via 2", x.via(1, 0, false, 2), -1);
        DUE.is("via -1", x.via(1, 0, false, -1), -1);
        DUE.is("no trip 20", x.via(20, 0, true, 0), -1);
        DUE.is("no day 100", x.via(0, 100, true, 0), -1);
        DUE.is("no day -1", x.via(0, -1, false, 0), -1);
    }

    /** By p1 in the zone 8 minutes, by p3 10 minutes. */
    private static AirZone ring(String orders) {
        AirZone x = new AirZone();
        Due.map(x, "way p0 p1 5;way p1 p2 3;way p0 p3 4;way p3 p2 6;zone p1;");
        DUE.is(orders, Due.orders(x, 5, orders), 0);
        return x;
    }

    private static void path(AirZone x, int trip, int day, boolean zone, int... points) {
        for (int n = 0; n < points.length; n++) {
            DUE.is("P " + n + " of trip " + trip, x.via(trip, day, zone, n), points[n]);
        }
        DUE.is("no more of trip " + trip, x.via(trip, day, zone, points.length), -1);
    }

    private static void cheapest() {
        AirZone x = ring("charge 2 is 12;");
        x.trip(0, 2, 10, 5, 2);
        x.trip(0, 2, 10, 7, 2);
        x.trip(0, 2, 10, 5, 3);
        x.trip(0, 1, 10, 1, 2);
        path(x, 0, 5, true, 0, 3, 2);
        path(x, 0, 5, false, 0, 1, 2);
        path(x, 0, 4, true, 0, 1, 2);
        path(x, 1, 5, true, 0, 1, 2);
        path(x, 2, 5, true, 0, 1, 2);
        path(x, 3, 5, true, 0, 1);
        DUE.is("around", x.minutes(0, 5, true), 10);
        DUE.is("without the zone", x.minutes(0, 5, false), 8);
        DUE.is("ahead of the orders", x.minutes(0, 4, true), 8);
        DUE.is("a dear minute", x.minutes(1, 5, true), 8);
        DUE.is("a class without a charge", x.minutes(2, 5, true), 8);
        DUE.is("an end in the zone", x.minutes(3, 5, true), 5);
        // the charge of a class is paid once, wherever one begins in the zone
        AirZone y = new AirZone();
        Due.map(y, "way p0 p1 5;way p1 p2 5;way p0 p3 5;way p3 p2 6;zone p0 p1;");
        Due.orders(y, 0, "charge 0 is 999;");
        y.trip(0, 2, 1, 1, 0);
        path(y, 0, 0, true, 0, 1, 2);
        AirZone z = new AirZone();
        Due.map(z, "way p0 p1 1;way p1 p2 1;way p2 p3 1;way p0 p4 5;way p4 p3 5;zone p0 p2;");
        Due.orders(z, 0, "charge 0 is 999;");
        z.trip(0, 3, 1, 1, 0);
        z.trip(3, 0, 1, 1, 0);
        z.trip(1, 3, 1, 1, 0);
        path(z, 0, 0, true, 0, 1, 2, 3);
        path(z, 1, 0, true, 3, 2, 1, 0);
        path(z, 2, 0, true, 1, 2, 3);
        AirZone w = new AirZone();
        Due.map(w, "way p0 p1 1;way p1 p3 1;way p0 p3 3;zone p0;");
        Due.orders(w, 0, "charge 0 is 999;");
        w.trip(0, 3, 1, 1, 0);
        path(w, 0, 0, true, 0, 1, 3);
    }

    private static void firstByNumber() {
        AirZone x = new AirZone();
        Due.map(x, "way p0 p5 2;way p5 p9 2;way p0 p4 1;way p4 p9 3;way p0 p9 4;way p4 p2 1;way p2 p9 2;way p0 p11 1;");
        x.trip(0, 9, 1, 1, 0);
        x.trip(9, 0, 1, 1, 0);
        path(x, 0, 0, false, 0, 4, 2, 9);
        path(x, 1, 0, false, 9, 0);
        path(x, 0, 0, true, 0, 4, 2, 9);
    }

    private static void likeCosts() {
        // by p1 (zone) 8 minutes and 6 coins, by p3 10 minutes at 3 coins: 30 each
        AirZone x = ring("charge 2 is 6;");
        x.trip(0, 2, 1, 3, 2);
        path(x, 0, 5, true, 0, 1, 2);
        AirZone y = new AirZone();
        Due.map(y, "way p0 p3 5;way p3 p2 3;way p0 p1 4;way p1 p2 6;zone p3;");
        Due.orders(y, 5, "charge 2 is 6;");
        y.trip(0, 2, 1, 3, 2);
        path(y, 0, 5, true, 0, 1, 2);
        path(y, 0, 5, false, 0, 3, 2);
        // like minutes with a charge of 0: the zone makes no odds
        AirZone z = new AirZone();
        Due.map(z, "way p0 p1 5;way p1 p2 5;way p0 p3 5;way p3 p2 5;zone p1;");
        Due.orders(z, 0, "charge 1 is 1;");
        z.trip(0, 2, 1, 1, 0);
        z.trip(0, 2, 1, 1, 1);
        path(z, 0, 0, true, 0, 1, 2);
        path(z, 1, 0, true, 0, 3, 2);
        // the first step is shared by both costs: p1 leads on to the zone p2 and past it by p3
        AirZone w = new AirZone();
        Due.map(w, "way p0 p1 1;way p1 p2 1;way p2 p4 1;way p1 p3 2;way p3 p4 2;way p0 p4 5;zone p2;");
        Due.orders(w, 0, "charge 0 is 2;");
        w.trip(0, 4, 1, 1, 0);
        path(w, 0, 0, true, 0, 1, 2, 4);
        DUE.is("minutes of it", w.minutes(0, 0, true), 3);
    }

    private static void loads() {
        AirZone x = new AirZone();
        Due.map(x, "way p0 p1 9;way p0 p1 5;way p1 p0 5;way p1 p2 3;way p0 p2 99;");
        x.trip(0, 2, 10, 1, 0);
        x.trip(1, 0, 7, 1, 0);
        DUE.is("a longer one", x.load(0, 0, false), 0);
        DUE.is("the first told of the shortest", x.load(1, 0, false), 17);
        DUE.is("like it, told later", x.load(2, 0, false), 0);
        DUE.is("of one trip", x.load(3, 0, true), 10);
        DUE.is("of none", x.load(4, 0, true), 0);
        DUE.is("no way 5", x.load(5, 0, true), -1);
        DUE.is("no way -1", x.load(-1, 0, true), -1);
        DUE.is("no day 100", x.load(0, 100, true), -1);
        DUE.is("no day -1", x.load(0, -1, false), -1);
    }

    private static void around() {
        AirZone x = ring("charge 2 is 12;");
        x.trip(0, 2, 10, 5, 2);
        x.trip(0, 2, 20, 7, 2);
        x.trip(0, 1, 40, 1, 2);
        x.trip(0, 3, 80, 1, 2);
        x.trip(2, 0, 3, 1, 2);
        DUE.is("around", x.around(5), 13);
        DUE.is("ahead of the orders", x.around(4), 0);
        DUE.is("no day 100", x.around(100), -1);
        DUE.is("no day -1", x.around(-1), -1);
        DUE.is("streets fill beside", x.load(2, 5, true), 93);
        DUE.is("without the zone", x.load(2, 5, false), 80);
    }

    private static void views() {
        AirZone x = new AirZone();
        Due.map(x, "way p0 p1 1;way p2 p3 1;way p3 p4 1;way p5 p6 1;way p7 p8 1;way p8 p9 1;camera p8 from 0 to 1;");
        x.trip(0, 1, 5, 1, 0);
        x.trip(2, 3, 4, 1, 0);
        x.trip(3, 4, 4, 1, 0);
        x.trip(5, 6, 1, 1, 0);
        x.trip(7, 9, 99, 1, 0);
        int[] sets = {0, 1 << 3, 1 | 1 << 3, 1 | 1 << 3 | 1 << 5};
        int[] cars = {0, 8, 13, 14};
        for (int most = 0; most <= 3; most++) {
            DUE.is("view of " + most, x.view(0, most), sets[most]);
            DUE.is("seen by " + most, x.seen(0, most), cars[most]);
        }
        DUE.is("four", x.view(0, 4), -1);
        DUE.is("less than none", x.view(0, -1), -1);
        DUE.is("no day 100", x.view(100, 1), -1);
        DUE.is("no day -1", x.view(-1, 1), -1);
        DUE.is("four", x.seen(0, 4), -1);
        DUE.is("less than none", x.seen(0, -1), -1);
        DUE.is("no day 100", x.seen(100, 1), -1);
        DUE.is("no day -1", x.seen(-1, 1), -1);
        // the ways are those with the zone: around it by p3
        AirZone y = new AirZone();
        Due.map(y, "way p0 p1 5;way p1 p2 3;way p0 p3 4;way p3 p2 6;way p3 p4 1;zone p1;");
        Due.orders(y, 5, "charge 0 is 99;");
        y.trip(0, 2, 9, 1, 0);
        y.trip(4, 3, 2, 1, 0);
        DUE.is("all of them", y.seen(5, 1), 11);
        DUE.is("by p3, where both go", y.view(5, 1), 1 << 3);
        DUE.is("before the orders by p0", y.view(4, 1), 1);
        DUE.is("nine of them", y.seen(4, 1), 9);
        DUE.is("all of them by two", y.seen(4, 2), 11);
        // the fewest of like ones, though their number is greater
        AirZone z = new AirZone();
        Due.map(z, "way p0 p9 1;way p1 p9 1;");
        z.trip(0, 9, 1, 1, 0);
        z.trip(1, 9, 1, 1, 0);
        DUE.is("the fewest", z.view(0, 2), 1 << 9);
        // of as few the least number: one more camera at p0 sees as much as one at p9
        AirZone w = new AirZone();
        Due.map(w, "way p0 p9 1;");
        w.trip(9, 0, 1, 1, 0);
        DUE.is("the least number", w.view(0, 3), 1);
    }
}
