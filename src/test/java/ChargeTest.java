/** Promises 19 to 23: CLASS, ENTRIES, CHARGE, ACCOUNT, BACK. */
public final class ChargeTest {
    private static final Due DUE = new Due("ChargeTest");
    private static final long A = Due.signs("aaaaaa");
    private static final long B = Due.signs("bbbbbb");

    public static void main(String[] args) {
        classes();
        entering();
        hours();
        free();
        grace();
        appeals();
        accounts();
        back();
        DUE.end();
    }

    /** p1 in the zone, p0 outside, a camera at each; two plates of fleets 3 and 4. */
    private static AirZone city(String orders) {
        AirZone x = new AirZone();
        Due.map(x, "way p0 p1 5;zone p1;camera p0 from 0 to 1440;camera p1 from 0 to 1440;");
        x.plate(A, 3);
        x.plate(B, 4);
        DUE.is(orders, Due.orders(x, 0, orders), 0);
        return x;
    }

    private static void classes() {
        AirZone x = city("class 5 when fuel=1;class 7 when norm=2;class 8 when fuel=1;");
        DUE.is("none holds", x.classOf(0, 0, 0), 0);
        x.papers(0, 5, 1, 2, 0, 0);
        x.papers(1, 5, 0, 2, 0, 0);
        DUE.is("the first that holds", x.classOf(0, 5, 0), 5);
        DUE.is("the next one", x.classOf(1, 5, 0), 7);
        DUE.is("ahead of papers", x.classOf(0, 4, 0), 0);
        DUE.is("no plate 2", x.classOf(2, 5, 0), -1);
        DUE.is("no plate -1", x.classOf(-1, 5, 0), -1);
        DUE.is("no day -1", x.classOf(0, -1, 0), -1);
        DUE.is("no day 100", x.classOf(0, 100, 0), -1);
    }

    private static void entering() {
        AirZone x = new AirZone();
        Due.map(x, "way p0 p1 5;zone p1;camera p0 from 0 to 1440;camera p1 from 0 to 1440;");
        x.plate(A, 0);
        x.read(1, 3, 10, A);
        DUE.is("without orders", x.entries(0, 99, 0), 0);
        DUE.is("without orders", x.charge(0, 3, 0), 0);
        Due.orders(x, 4, "charge 0 is 7;");
        DUE.is("without orders that day", x.entries(0, 99, 0), 0);
        x.read(1, 4, 10, A);
        x.read(0, 5, 10, A);
        x.read(1, 6, 10, B);
        x.read(1, 7, 10, A);
        x.read(1, 7, 11, A);
        DUE.is("on day 4", x.charge(0, 4, 0), 7);
        DUE.is("outside the zone", x.charge(0, 5, 0), 0);
        DUE.is("another's reading", x.charge(0, 6, 0), 0);
        DUE.is("once a day", x.charge(0, 7, 0), 7);
        DUE.is("ahead of day 4", x.entries(0, 4, 0), 0);
        DUE.is("ahead of day 5", x.entries(0, 5, 0), 1);
        DUE.is("ahead of day 7", x.entries(0, 7, 0), 1);
        DUE.is("ahead of day 8", x.entries(0, 8, 0), 2);
        DUE.is("as known before", x.entries(0, 8, -1), 0);
        DUE.is("no plate 1", x.entries(1, 8, 0), -1);
        DUE.is("no plate -1", x.entries(-1, 8, 0), -1);
        DUE.is("no day 100", x.entries(0, 100, 0), -1);
        DUE.is("no day -1", x.entries(0, -1, 0), -1);
        DUE.is("no plate 1", x.charge(1, 8, 0), -1);
        DUE.is("no plate -1", x.charge(-1, 8, 0), -1);
        DUE.is("no day 100", x.charge(0, 100, 0), -1);
        DUE.is("no day -1", x.charge(0, -1, 0), -1);
        x.plate(Due.signs("cccccc"), 0);
        DUE.is("not told to be charged", x.charge(1, 4, 0), 0);
        Due.orders(x, 7, "charge 1 is 7;");
        DUE.is("a class without a charge", x.charge(0, 7, 0), 0);
        DUE.is("enters all the same", x.entries(0, 8, 0), 2);
    }

    private static void hours() {
        AirZone x = city("charge 0 is 7;hours 60 to 120;");
        int[] minutes = {59, 60, 119, 120};
        int[] want = {0, 7, 7, 0};
        for (int day = 0; day < 4; day++) {
            x.read(1, day, minutes[day], A);
            DUE.is("at minute " + minutes[day], x.charge(0, day, 0), want[day]);
        }
        DUE.is("entries in hours", x.entries(0, 4, 0), 2);
    }

    private static void free() {
        AirZone x = city("class 1 when kind=1;charge 1 is 9;charge 0 is 7;free when class=1 or day=3;");
        for (int day = 0; day < 4; day++) {
            x.read(1, day, 10, A);
        }
        x.papers(0, 1, 0, 0, 1, 0);
        x.papers(0, 2, 0, 0, 0, 0);
        DUE.is("not free", x.charge(0, 0, 0), 7);
        DUE.is("free by class", x.charge(0, 1, 0), 0);
        DUE.is("not free again", x.charge(0, 2, 0), 7);
        DUE.is("free by day", x.charge(0, 3, 0), 0);
        DUE.is("free days are entries, too", x.entries(0, 4, 0), 4);
    }

    private static void grace() {
        AirZone x = city("charge 0 is 7;grace 2;");
        for (int day = 0; day < 4; day++) {
            x.read(1, 2 * day, 10, A);
            DUE.is("entry " + day, x.charge(0, 2 * day, 0), day < 2 ? 0 : 7);
        }
        x.later(1);
        x.untell(0);
        DUE.is("a first day goes", x.charge(0, 4, 1), 0);
        DUE.is("as known before", x.charge(0, 4, 0), 7);
    }

    private static void appeals() {
        AirZone x = city("charge 0 is 7;hours 50 to 1440;appeal when minute<100 and entries>0 and class=0;");
        x.read(1, 0, 60, A);
        x.read(1, 1, 120, A);
        x.read(1, 1, 99, A);
        x.read(1, 1, 20, A);
        x.read(1, 2, 20, A);
        x.read(0, 2, 60, A);
        x.read(1, 2, 100, A);
        x.read(1, 3, 60, A);
        for (int day = 0; day < 4; day++) {
            DUE.is("without an appeal", x.charge(0, day, 0), 7);
        }
        x.later(1);
        int last = 0;
        for (int day = 0; day < 3; day++) {
            last = x.appeal(0, day);
        }
        x.appeal(1, 3);
        DUE.is("without entries", x.charge(0, 0, 1), 7);
        DUE.is("the first of those in hours", x.charge(0, 1, 1), 0);
        DUE.is("the first in the zone and in hours", x.charge(0, 2, 1), 7);
        DUE.is("another plate's appeal", x.charge(0, 3, 1), 7);
        x.appeal(0, 3);
        DUE.is("an appeal", x.charge(0, 3, 1), 0);
        DUE.is("as known before", x.charge(0, 3, 0), 7);
        x.later(1);
        x.untell(last + 2);
        DUE.is("an appeal taken back", x.charge(0, 3, 2), 7);
        AirZone y = city("charge 0 is 7;");
        y.read(1, 0, 60, A);
        y.appeal(0, 0);
        DUE.is("no appeal holds", y.charge(0, 0, 0), 7);
    }

    private static void accounts() {
        AirZone x = city("class 1 when fuel=1;charge 0 is 7;charge 1 is 100;grace 1;");
        x.plate(Due.signs("cccccc"), 3);
        x.papers(2, 0, 1, 0, 0, 0);
        for (int day = 0; day < 5; day++) {
            x.read(1, day, 10, A);
            x.read(1, day, 10, B);
            x.read(1, day, 10, Due.signs("cccccc"));
        }
        DUE.is("a fleet", x.account(3, 0, 99, 0), 4 * 107);
        DUE.is("entries ahead of the first day count", x.account(3, 1, 2, 0), 2 * 107);
        DUE.is("one day", x.account(3, 0, 0, 0), 0);
        DUE.is("one day", x.account(3, 4, 4, 0), 107);
        DUE.is("another fleet", x.account(4, 0, 4, 0), 4 * 7);
        DUE.is("a fleet without plates", x.account(9, 0, 4, 0), 0);
        DUE.is("no fleet 10", x.account(10, 0, 4, 0), -1);
        DUE.is("no fleet -1", x.account(-1, 0, 4, 0), -1);
        DUE.is("the second ahead of the first", x.account(3, 4, 3, 0), -1);
        DUE.is("no day -1", x.account(3, -1, 3, 0), -1);
        DUE.is("no day 100", x.account(3, 0, 100, 0), -1);
        DUE.is("no days", x.account(3, 100, 100, 0), -1);
    }

    private static void back() {
        AirZone x = city("class 1 when fuel=1;charge 0 is 7;charge 1 is 100;");
        x.read(1, 0, 10, A);
        x.read(1, 1, 10, A);
        x.later(10);
        x.papers(0, 1, 1, 0, 0, 0);
        x.plate(Due.signs("cccccc"), 3);
        DUE.is("more as known now", x.back(3, 0, 99, 10, 9), 93);
        x.later(1);
        x.untell(0);
        DUE.is("a reading taken back", x.back(3, 0, 99, 10, 11), 7);
        DUE.is("a reading taken back", x.back(3, 0, 99, 11, 10), -7);
        DUE.is("as known before", x.account(3, 0, 99, 10), 107);
        DUE.is("and again", x.back(3, 0, 99, 11, 10), -7);
        DUE.is("as known now", x.account(3, 0, 99, 11), 100);
        DUE.is("and again", x.back(3, 0, 99, 10, 11), 7);
        DUE.is("less as known then", x.back(3, 0, 99, 9, 10), -93);
        DUE.is("nothing", x.back(3, 0, 0, 10, 9), 0);
        DUE.is("from the start", x.back(3, 0, 1, 10, -1), 107);
        DUE.is("another fleet", x.back(4, 0, 1, 10, -1), 0);
        DUE.is("no fleet 10", x.back(10, 0, 1, 0, 0), -1000000);
        DUE.is("no fleet -1", x.back(-1, 0, 1, 0, 0), -1000000);
        DUE.is("the second ahead of the first", x.back(3, 1, 0, 0, 0), -1000000);
        DUE.is("no day 100", x.back(3, 0, 100, 0, 0), -1000000);
        DUE.is("no day -1", x.back(3, -1, 1, 0, 0), -1000000);
    }
}
