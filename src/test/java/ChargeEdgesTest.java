/**
 * Every sentence on who ENTERS, CLASS, ENTRIES, CHARGE, ACCOUNT and BACK that names a boundary case has a
 * method of its own, with its words above it (their terms, promises 19 to 23).
 */
public final class ChargeEdgesTest {
    private static final Due DUE = new Due("ChargeEdgesTest");
    private static final int LEAST = Integer.MIN_VALUE;
    private static final int GREATEST = Integer.MAX_VALUE;
    private static final long A = Due.signs("aaaaaa");
    private static final long B = Due.signs("bbbbbb");

    public static void main(String[] args) {
        inTheHours();
        atAPointOfTheZone();
        byWhose();
        withoutOrders();
        firstClassLine();
        zeroWithoutAClass();
        entriesAhead();
        entriesByTheirOrders();
        zeroIfItDoesNotEnter();
        freeHolds();
        lessThanGrace();
        appealForTheDay();
        appealAlone();
        minuteOfTheFirst();
        entriesInAppeal();
        asKnownAtK();
        ordersOfThatDay();
        noneIfOneIsNone();
        accountFromTo();
        accountOfAFleet();
        accountNone();
        backLess();
        backNone();
        DUE.end();
    }

    /** p1 in the zone, p0 and p2 outside, a camera at each; plates of fleets 3 and 4; orders from day 0 on. */
    private static AirZone city(String orders) {
        AirZone x = new AirZone();
        Due.map(x, "way p0 p1 5;way p1 p2 5;zone p1;camera p0 from 0 to 1440;camera p1 from 0 to 1440;camera p2 from 0 to 1440;");
        x.plate(A, 3);
        x.plate(B, 4);
        DUE.is(orders, Due.orders(x, 0, orders), 0);
        return x;
    }

    // in the hours in force
    private static void inTheHours() {
        int[] minutes = {0, 99, 100, 101, 198, 199, 200, 1439};
        for (int n = 0; n < minutes.length; n++) {
            AirZone x = city("charge 0 is 7;hours 100 to 200;");
            x.read(1, 0, minutes[n], A);
            boolean enters = minutes[n] >= 100 && minutes[n] < 200;
            DUE.is("charge at " + minutes[n], x.charge(0, 0, 0), enters ? 7 : 0);
            DUE.is("entry at " + minutes[n], x.entries(0, 1, 0), enters ? 1 : 0);
            AirZone y = city("charge 0 is 7;hours 0 to 1440;");
            y.read(1, 0, minutes[n], A);
            DUE.is("all hours at " + minutes[n], y.charge(0, 0, 0), 7);
        }
    }

    // if a READING that is its .. lies at a P of the zone
    private static void atAPointOfTheZone() {
        AirZone x = city("charge 0 is 7;");
        x.read(0, 0, 10, A);
        x.read(2, 0, 20, A);
        DUE.is("through the zone, but not read there", x.charge(0, 0, 0), 0);
        x.read(1, 0, 15, A);
        DUE.is("read there", x.charge(0, 0, 0), 7);
        AirZone y = new AirZone();
        Due.map(y, "camera p1 from 0 to 1440;");
        y.plate(A, 3);
        Due.orders(y, 0, "charge 0 is 7;");
        y.read(0, 0, 10, A);
        DUE.is("no zone at all", y.charge(0, 0, 0), 0);
    }

    // a READING that is its (by WHOSE)
    private static void byWhose() {
        AirZone x = city("charge 0 is 7;");
        x.read(0, 0, 10, A);
        x.read(1, 0, 10, A);
        DUE.is("nobody's by WHOSE", x.charge(0, 0, 0), 0);
        DUE.is("nor the other's", x.charge(1, 0, 0), 0);
        x.untell(0);
        DUE.is("its own then", x.charge(0, 0, 0), 7);
        AirZone y = city("charge 0 is 7;");
        y.read(1, 0, 10, Due.signs("aaaa??"));
        DUE.is("like it by 2", y.charge(0, 0, 0), 7);
        y.read(1, 1, 10, Due.signs("aaa???"));
        DUE.is("not like it", y.charge(0, 1, 0), 0);
    }

    // (without orders in force it does not); without any nobody ENTERS, and all CLASSES and charges are 0
    private static void withoutOrders() {
        AirZone x = new AirZone();
        Due.map(x, "zone p1;camera p1 from 0 to 1440;");
        x.plate(A, 3);
        Due.orders(x, 5, "class 1 when 1=1;charge 1 is 7;");
        for (int day = 3; day < 7; day++) {
            x.read(0, day, 10, A);
            DUE.is("charge on day " + day, x.charge(0, day, 0), day < 5 ? 0 : 7);
            DUE.is("class on day " + day, x.classOf(0, day, 0), day < 5 ? 0 : 1);
            DUE.is("entries ahead of day " + (day + 1), x.entries(0, day + 1, 0), day < 5 ? 0 : day - 4);
        }
        DUE.is("account", x.account(3, 0, 99, 0), 14);
    }

    // the N of the first class line whose e holds
    private static void firstClassLine() {
        AirZone x = city("class 9 when fuel>5;class 3 when fuel>3;class 5 when fuel>1;class 7 when 1=1;");
        int[] want = {7, 7, 5, 5, 3, 3, 9, 9, 9, 9};
        for (int fuel = 0; fuel < 10; fuel++) {
            x.papers(0, fuel, fuel, 0, 0, 0);
            DUE.is("class by fuel " + fuel, x.classOf(0, fuel, 0), want[fuel]);
        }
    }

    // 0 without
    private static void zeroWithoutAClass() {
        AirZone x = city("class 9 when fuel=1;class 8 when norm=1;charge 0 is 7;charge 9 is 9;");
        DUE.is("none holds", x.classOf(0, 0, 0), 0);
        x.read(1, 0, 10, A);
        DUE.is("the charge of class 0", x.charge(0, 0, 0), 7);
        AirZone y = city("charge 0 is 6;");
        DUE.is("no class line", y.classOf(0, 0, 0), 0);
    }

    // ENTRIES: on how many DAYS ahead of it (0 .. DAY - 1) it ENTERED
    private static void entriesAhead() {
        AirZone x = city("charge 0 is 7;");
        x.read(1, 0, 10, A);
        x.read(1, 0, 20, A);
        x.read(1, 5, 10, A);
        x.read(1, 99, 10, A);
        int[] days = {0, 1, 5, 6, 98, 99};
        int[] want = {0, 1, 1, 2, 2, 2};
        for (int n = 0; n < days.length; n++) {
            DUE.is("ahead of day " + days[n], x.entries(0, days[n], 0), want[n]);
            DUE.is("the other's", x.entries(1, days[n], 0), 0);
        }
        AirZone y = new AirZone();
        Due.map(y, "zone p1;camera p1 from 0 to 1440;");
        y.plate(A, 0);
        y.orders(0);
        for (int day = 0; day < 100; day++) {
            y.read(0, day, 0, A);
        }
        DUE.is("every day", y.entries(0, 99, 0), 99);
    }

    // .. it ENTERED, by orders in force that DAY
    private static void entriesByTheirOrders() {
        AirZone x = city("hours 0 to 100;");
        Due.orders(x, 2, "hours 100 to 200;");
        for (int day = 0; day < 4; day++) {
            x.read(1, day, 99, A);
        }
        DUE.is("in hours on two of four days", x.entries(0, 99, 0), 2);
        for (int day = 0; day < 4; day++) {
            x.read(1, day, 100, A);
        }
        DUE.is("in hours on all days", x.entries(0, 99, 0), 4);
    }

    // CHARGE: that of its CLASS if it ENTERS
    private static void zeroIfItDoesNotEnter() {
        AirZone x = city("class 2 when 1=1;charge 2 is 999;");
        DUE.is("without readings", x.charge(0, 0, 0), 0);
        x.read(0, 0, 10, A);
        x.read(1, 1, 10, B);
        DUE.is("outside", x.charge(0, 0, 0), 0);
        DUE.is("another one", x.charge(0, 1, 0), 0);
        DUE.is("that one", x.charge(1, 1, 0), 999);
    }

    // 0 if free holds
    private static void freeHolds() {
        AirZone x = city("class 2 when fuel=2;charge 2 is 9;charge 0 is 7;free when class=2 and day>1 or home=1;");
        for (int day = 0; day < 4; day++) {
            x.read(1, day, 10, A);
            x.papers(0, day, day < 3 ? 2 : 0, 0, 0, day == 3 ? 1 : 0);
        }
        int[] want = {9, 9, 0, 0};
        for (int day = 0; day < 4; day++) {
            DUE.is("on day " + day, x.charge(0, day, 0), want[day]);
        }
        DUE.is("free ones entered", x.entries(0, 4, 0), 4);
    }

    // or ENTRIES is less than grace
    private static void lessThanGrace() {
        for (int grace = 0; grace < 4; grace++) {
            AirZone x = city("charge 0 is 7;grace " + grace + ";");
            for (int n = 0; n < 4; n++) {
                x.read(1, 10 * n, 10, A);
                DUE.is("entry " + n + " with grace " + grace, x.charge(0, 10 * n, 0), n < grace ? 0 : 7);
            }
        }
    }

    // or an APPEAL for the DAY counts and appeal holds
    private static void appealForTheDay() {
        AirZone x = city("charge 0 is 7;appeal when 1=1;");
        for (int day = 0; day < 3; day++) {
            x.read(1, day, 10, A);
            x.read(1, day, 10, B);
        }
        x.appeal(0, 1);
        DUE.is("the day ahead", x.charge(0, 0, 0), 7);
        DUE.is("the day", x.charge(0, 1, 0), 0);
        DUE.is("the next day", x.charge(0, 2, 0), 7);
        DUE.is("the other plate", x.charge(1, 1, 0), 7);
        x.appeal(0, 1);
        x.later(1);
        x.untell(6);
        DUE.is("a second one counts still", x.charge(0, 1, 1), 0);
        x.untell(7);
        DUE.is("none counts", x.charge(0, 1, 1), 7);
        DUE.is("as known before", x.charge(0, 1, 0), 0);
    }

    // no appeal holds; an APPEAL for the DAY counts AND appeal holds
    private static void appealAlone() {
        AirZone x = city("charge 0 is 7;appeal when day=1;");
        for (int day = 0; day < 3; day++) {
            x.read(1, day, 10, A);
        }
        DUE.is("holds without an appeal", x.charge(0, 1, 0), 7);
        for (int day = 0; day < 3; day++) {
            x.appeal(0, day);
        }
        DUE.is("does not hold", x.charge(0, 0, 0), 7);
        DUE.is("holds", x.charge(0, 1, 0), 0);
        DUE.is("does not hold", x.charge(0, 2, 0), 7);
    }

    // (minute: the first of those READINGS in the zone in hours ..)
    private static void minuteOfTheFirst() {
        for (int asked = 0; asked < 400; asked += 50) {
            AirZone x = city("charge 0 is 7;hours 100 to 300;appeal when minute=" + asked + ";");
            x.read(1, 0, 250, A);
            x.read(1, 0, 200, A);
            x.read(1, 0, 50, A);
            x.read(0, 0, 100, A);
            x.read(1, 0, 150, B);
            x.read(1, 0, 350, A);
            x.appeal(0, 0);
            DUE.is("minute " + asked, x.charge(0, 0, 0), asked == 200 ? 0 : 7);
            AirZone z = city("charge 0 is 7;appeal when minute=" + asked + ";");
            z.read(1, 0, 150, A);
            z.read(1, 0, 250, A);
            z.read(1, 0, 200, A);
            z.appeal(0, 0);
            DUE.is("the first as told, minute " + asked, z.charge(0, 0, 0), asked == 150 ? 0 : 7);
        }
        AirZone y = city("charge 0 is 7;appeal when minute=0;");
        y.read(1, 0, 0, A);
        y.read(1, 0, 9, A);
        y.appeal(0, 0);
        DUE.is("minute 0", y.charge(0, 0, 0), 0);
    }

    // (.. entries: ENTRIES)
    private static void entriesInAppeal() {
        AirZone x = city("charge 0 is 7;appeal when entries=2;");
        for (int n = 0; n < 4; n++) {
            x.read(1, 3 * n, 10, A);
            x.appeal(0, 3 * n);
            DUE.is("entry " + n, x.charge(0, 3 * n, 0), n == 2 ? 0 : 7);
        }
        DUE.is("in an account", x.account(3, 0, 99, 0), 21);
        DUE.is("in a part of it", x.account(3, 6, 99, 0), 7);
    }

    // All of it as known at k
    private static void asKnownAtK() {
        AirZone x = city("class 1 when fuel=1;charge 1 is 100;charge 0 is 7;grace 1;appeal when entries=1;");
        x.read(1, 0, 10, A);
        x.later(1);
        x.read(1, 1, 10, A);
        x.later(1);
        x.papers(0, 0, 1, 0, 0, 0);
        x.later(1);
        x.appeal(0, 1);
        x.later(1);
        x.untell(0);
        int[] k = {LEAST, -1, 0, 1, 2, 3, 4, GREATEST};
        int[] charge = {0, 0, 0, 7, 100, 0, 0, 0};
        int[] entries = {0, 0, 1, 1, 1, 1, 0, 0};
        int[] classes = {0, 0, 0, 0, 1, 1, 1, 1};
        for (int n = 0; n < k.length; n++) {
            DUE.is("charge at " + k[n], x.charge(0, 1, k[n]), charge[n]);
            DUE.is("entries at " + k[n], x.entries(0, 1, k[n]), entries[n]);
            DUE.is("class at " + k[n], x.classOf(0, 1, k[n]), classes[n]);
            DUE.is("account at " + k[n], x.account(3, 1, 1, k[n]), charge[n]);
        }
    }

    // by orders in force that DAY
    private static void ordersOfThatDay() {
        AirZone x = city("class 1 when 1=1;charge 1 is 1;");
        Due.orders(x, 1, "class 2 when 1=1;charge 2 is 2;grace 1;");
        Due.orders(x, 2, "charge 0 is 4;appeal when 1=1;");
        Due.orders(x, 3, "charge 0 is 8;free when 1=1;");
        Due.orders(x, 4, "charge 0 is 16;grace 5;");
        for (int day = 0; day < 5; day++) {
            x.read(1, day, 10, A);
            x.appeal(0, day);
        }
        int[] want = {1, 2, 0, 0, 0};
        for (int day = 0; day < 5; day++) {
            DUE.is("on day " + day, x.charge(0, day, 0), want[day]);
        }
        DUE.is("all of them", x.account(3, 0, 99, 0), 3);
    }

    // NONE likewise (if one is none)
    private static void noneIfOneIsNone() {
        AirZone x = city("charge 0 is 7;");
        int[] bad = {-1, 100, LEAST, GREATEST};
        for (int n : bad) {
            DUE.is("classOf plate " + n, x.classOf(n, 0, 0), -1);
            DUE.is("classOf day " + n, x.classOf(0, n, 0), -1);
            DUE.is("entries of plate " + n, x.entries(n, 0, 0), -1);
            DUE.is("entries of day " + n, x.entries(0, n, 0), -1);
            DUE.is("charge of plate " + n, x.charge(n, 0, 0), -1);
            DUE.is("charge of day " + n, x.charge(0, n, 0), -1);
        }
        DUE.is("classOf plate 2", x.classOf(2, 0, 0), -1);
        DUE.is("entries of plate 2", x.entries(2, 0, 0), -1);
        DUE.is("charge of plate 2", x.charge(2, 0, 0), -1);
        DUE.is("classOf on day 99", x.classOf(1, 99, 0), 0);
        DUE.is("entries on day 99", x.entries(1, 99, 0), 0);
        DUE.is("charge on day 99", x.charge(1, 99, 0), 0);
    }

    // ACCOUNT of a fleet: all CHARGES of its PLATES on DAYS from .. to
    private static void accountFromTo() {
        AirZone x = city("class 1 when day=0;class 2 when day=5;class 3 when day=99;charge 1 is 1;charge 2 is 20;charge 3 is 300;");
        x.read(1, 0, 10, A);
        x.read(1, 5, 10, A);
        x.read(1, 99, 10, A);
        int[][] spans = {{0, 99, 321}, {0, 98, 21}, {1, 99, 320}, {0, 5, 21}, {0, 4, 1}, {5, 5, 20}, {6, 98, 0}, {0, 0, 1},
            {99, 99, 300}};
        for (int[] s : spans) {
            DUE.is("days " + s[0] + " to " + s[1], x.account(3, s[0], s[1], 0), s[2]);
        }
    }

    // all CHARGES of its PLATES
    private static void accountOfAFleet() {
        AirZone x = city("charge 0 is 999;");
        for (int n = 0; n < 6; n++) {
            DUE.is("a plate of fleet 3", x.plate(Due.signs("cccc1" + n), 3), n + 2);
        }
        for (int day = 0; day < 28; day++) {
            for (int n = 0; n < 7; n++) {
                x.read(1, day, 10, n == 6 ? A : Due.signs("cccc1" + n));
            }
        }
        DUE.is("seven plates on 28 days", x.account(3, 0, 99, 0), 7 * 28 * 999);
        DUE.is("the other fleet", x.account(4, 0, 99, 0), 0);
        DUE.is("a fleet without plates", x.account(0, 0, 99, 0), 0);
    }

    // NONE if there is none such, or the DAYS can't be (the second not ahead of the first)
    private static void accountNone() {
        AirZone x = city("charge 0 is 7;");
        int[] fleets = {-1, 10, LEAST, GREATEST};
        for (int fleet : fleets) {
            DUE.is("fleet " + fleet, x.account(fleet, 0, 0, 0), -1);
        }
        int[][] days = {{-1, 0}, {0, 100}, {1, 0}, {99, 98}, {100, 100}, {-1, -1}, {LEAST, GREATEST}, {GREATEST, LEAST}};
        for (int[] d : days) {
            DUE.is("days " + d[0] + " to " + d[1], x.account(3, d[0], d[1], 0), -1);
        }
        DUE.is("one day", x.account(3, 99, 99, 0), 0);
        DUE.is("fleets 0 and 9", x.account(0, 0, 0, 0) + x.account(9, 0, 0, 0), 0);
    }

    // BACK: the ACCOUNT as known at k less that as known at another time (it may be below 0)
    private static void backLess() {
        AirZone x = city("charge 0 is 7;");
        x.read(1, 0, 10, A);
        x.later(1);
        x.read(1, 1, 10, A);
        x.later(1);
        x.untell(0);
        int[] k = {LEAST, -1, 0, 1, 2, GREATEST};
        int[] known = {0, 0, 7, 14, 7, 7};
        for (int a = 0; a < k.length; a++) {
            for (int b = 0; b < k.length; b++) {
                DUE.is("back " + k[a] + " " + k[b], x.back(3, 0, 99, k[a], k[b]), known[a] - known[b]);
                DUE.is("of day 1", x.back(3, 1, 1, k[a], k[b]), (a < 3 ? 0 : 7) - (b < 3 ? 0 : 7));
            }
        }
    }

    // -1000000 likewise
    private static void backNone() {
        AirZone x = city("charge 0 is 7;");
        int[] fleets = {-1, 10, LEAST, GREATEST};
        for (int fleet : fleets) {
            DUE.is("fleet " + fleet, x.back(fleet, 0, 0, 0, 0), -1000000);
        }
        int[][] days = {{-1, 0}, {0, 100}, {1, 0}, {99, 98}, {100, 100}, {-1, -1}, {LEAST, GREATEST}, {GREATEST, LEAST}};
        for (int[] d : days) {
            DUE.is("days " + d[0] + " to " + d[1], x.back(3, d[0], d[1], 0, 0), -1000000);
        }
        DUE.is("one day", x.back(3, 99, 99, 0, 0), 0);
    }
}
