/** Promises 5 and 6: ORDERS, their FAULTS, which are in force. */
public final class OrdersTest {
    private static final Due DUE = new Due("OrdersTest");

    public static void main(String[] args) {
        numbers();
        refused();
        faults();
        nests();
        units();
        inForce();
        nothingStays();
        sums();
        DUE.end();
    }

    private static void numbers() {
        AirZone x = new AirZone();
        for (int n = 0; n < 6; n++) {
            DUE.is("a text with a fault", Due.orders(x, n, "class"), -1);
            DUE.is("orders " + n, Due.orders(x, 99 - n, "grace 20;grace"), -1);
            DUE.is("none came", x.about(3), n);
            DUE.is("orders " + n, Due.orders(x, n, "grace 20;"), n);
            DUE.is("the tape is empty then", x.about(9), 0);
        }
        DUE.is("a seventh", Due.orders(x, 6, "grace 20;"), -2);
        DUE.is("the tape stays", x.about(9), 9);
        DUE.is("six there are", x.about(3), 6);
    }

    private static void refused() {
        AirZone x = new AirZone();
        for (int n = 0; n < 36; n++) {
            x.feed(0x20202020, 0x20202020, 0x20202020, 0x20202020, 0x20202020);
        }
        x.end(701);
        DUE.is("701 bytes", x.orders(0), -2);
        DUE.is("stay", x.about(9), 701);
        x.end(700);
        DUE.is("no day -1", x.orders(-1), -2);
        DUE.is("no day 100", x.orders(100), -2);
        DUE.is("stay", x.about(9), 700);
        DUE.is("700 bytes", x.orders(99), 0);
    }

    private static void fault(String text, int fault, int place) {
        AirZone x = new AirZone();
        DUE.is("orders '" + text + "'", Due.orders(x, 0, text), -1);
        DUE.is("fault of '" + text + "'", x.fault(0), fault);
        DUE.is("its place in '" + text + "'", x.fault(1), place);
        DUE.is("none came of '" + text + "'", x.about(3), 0);
    }

    private static void good(String text) {
        AirZone x = new AirZone();
        DUE.is("orders '" + text + "'", Due.orders(x, 0, text), 0);
        DUE.is("no fault of '" + text + "'", x.fault(0), 0);
    }

    private static void faults() {
        fault("way p0 p1 5;", 2, 0);
        fault("fuel", 2, 0);
        fault("class when 1=1;", 2, 6);
        fault("class 10 when 1=1;", 4, 6);
        fault("class 1 if", 2, 8);
        fault("class 1 when;", 2, 12);
        fault("class 1 when 1=1", 2, 16);
        fault("class 1 when 1=1 class", 2, 17);
        fault("class 1 when class=1;", 6, 13);
        fault("class 1 when 1=minute;", 6, 15);
        fault("class 1 when entries=1;", 6, 13);
        fault("free when minute=1;", 6, 10);
        fault("free when day+entries=1;", 6, 14);
        fault("free free", 2, 5);
        good("free when class=1;");
        good("appeal when class+minute+entries+day=fuel+norm-kind-home;");
        good("class 0 when day=9999 or fuel+norm>kind-home;");
        fault("charge 10 is 5;", 4, 7);
        fault("charge 1 5;", 2, 9);
        fault("charge 1 is 1000;", 4, 12);
        fault("charge 1 is 5;charge 2 is 5;charge 1 is 5;", 2, 35);
        fault("charge is 5;", 2, 7);
        good("charge 0 is 0;charge 9 is 999;");
        fault("hours 1441 to 1442;", 4, 6);
        fault("hours 1440 to 1440;", 4, 14);
        fault("hours 7 to 7;", 4, 11);
        fault("hours 7 to 6;", 4, 11);
        fault("hours 7 8;", 2, 8);
        fault("hours 0 to 1;hours", 2, 13);
        good("hours 1439 to 1440;");
        fault("grace 21;", 4, 6);
        fault("grace fuel;", 2, 6);
        fault("grace 0;grace 1;", 2, 8);
        fault("free when 1=1;free when 1=1;", 2, 14);
        fault("appeal when 1=1;appeal when 1=1;", 2, 16);
        fault("free when 1;", 2, 11);
        fault("free when 1=;", 2, 12);
        fault("free when 1=1=1;", 2, 13);
        fault("free when 1+=1;", 2, 12);
        fault("free when -1=1;", 2, 10);
        fault("free when 1=1 and;", 2, 17);
        fault("free when 1=1 or and;", 2, 17);
        fault("free when 1=1 not 1=1;", 2, 14);
        fault("free when (1=1;", 2, 14);
        fault("free when 1=1);", 2, 13);
        fault("free when (1)=1;", 2, 12);
        fault("free when ();", 2, 11);
        fault("free when 1=(1);", 2, 12);
        fault("free when p1=1;", 2, 10);
        fault("free when road=1;", 2, 10);
        fault("free when 12345=1;", 1, 10);
        fault("free when 1=1and 1=1;", 1, 12);
        // a fault is one, though all behind it might stand
        fault("class;", 2, 5);
        fault("class 1;", 2, 7);
        fault("charge;", 2, 6);
        fault("charge 1;", 2, 8);
        fault("charge 1 is;", 2, 11);
        fault("hours;", 2, 5);
        fault("hours 1;", 2, 7);
        fault("hours 1 to;", 2, 10);
        fault("free;", 2, 4);
        fault("grace;", 2, 5);
        fault("appeal;", 2, 6);
        fault("class grace 1;", 2, 6);
        fault("class 1 grace 1;", 2, 8);
        fault("class 1 when grace 1;", 2, 13);
        fault("class 1 when 1=1 grace 1;", 2, 17);
        fault("class 1 when 1 grace 1;", 2, 15);
        fault("class 1 when 1= grace 1;", 2, 16);
        fault("class 1 when 1=1 and grace 1;", 2, 21);
        fault("class 1 when (grace 1;", 2, 14);
        fault("class 1 when (1=1 grace 1;", 2, 18);
        fault("charge grace 1;", 2, 7);
        fault("charge 1 grace 1;", 2, 9);
        fault("charge 1 is grace 1;", 2, 12);
        fault("hours grace 1;", 2, 6);
        fault("hours 1 grace 1;", 2, 8);
        fault("hours 1 to grace 1;", 2, 11);
        fault("free grace 1;", 2, 5);
        fault("grace grace 1;", 2, 6);
        fault("appeal when 1=1 grace 1;", 2, 16);
        StringBuilder classes = new StringBuilder();
        for (int n = 0; n < 6; n++) {
            classes.append("class 5 when 1=1;");
        }
        good(classes.toString());
        fault(classes + "class", 2, classes.length());
    }

    private static void nests() {
        good("free when (((((((1<2)))))));");
        fault("free when ((((((((1<2", 2, 17);
        good("free when not not not not not not not 1<2;");
        fault("free when not not not not not not not not 1<2;", 2, 38);
        good("free when not(not(not(not 1<2)));");
        fault("free when not(not(not(not(1<2))));", 2, 25);
        fault("free when (((((((1=1 or (1=1", 2, 24);
        fault("free when (((((((1=1 and not 1=1", 2, 25);
        good("free when (((((((1=1))))))) and (((((((not 1=1".replace("(not 1=1", "1=1))))))") + ";");
    }

    private static void units() {
        StringBuilder sum = new StringBuilder("free when 1");
        for (int n = 0; n < 48; n++) {
            sum.append("+1");
        }
        good(sum + "=1;");
        fault(sum + "+1=1;", 2, sum.length() + 3);
        fault(sum + "=1;appeal when 1=1;", 2, sum.length() + 15);
        // at one place the least: a 51st unit that may not be asked for
        fault(sum + "=1;class 1 when class=1;", 2, sum.length() + 16);
    }

    /** The class of a plate without papers on a DAY. */
    private static void inForce() {
        AirZone x = new AirZone();
        x.plate(Due.signs("aaaaaa"), 0);
        DUE.is("class without orders", x.classOf(0, 99, 0), 0);
        Due.orders(x, 10, "class 1 when 1=1;");
        Due.orders(x, 20, "class 2 when 1=1;");
        Due.orders(x, 15, "class 3 when 1=1;");
        DUE.is("class on day 9", x.classOf(0, 9, 0), 0);
        DUE.is("class on day 10", x.classOf(0, 10, 0), 1);
        DUE.is("class on day 14", x.classOf(0, 14, 0), 1);
        DUE.is("class on day 15", x.classOf(0, 15, 0), 3);
        DUE.is("class on day 99", x.classOf(0, 99, 0), 2);
        Due.orders(x, 10, "class 4 when 1=1;");
        DUE.is("of like days the last told", x.classOf(0, 10, 0), 4);
        Due.orders(x, 20, "");
        DUE.is("orders that tell nothing", x.classOf(0, 99, 0), 0);
    }

    /** What a text with a FAULT told is not told to the next one. */
    private static void nothingStays() {
        AirZone x = new AirZone();
        Due.map(x, "zone p0;camera p0 from 0 to 1440;");
        x.plate(Due.signs("aaaaaa"), 0);
        x.read(0, 0, 100, Due.signs("aaaaaa"));
        x.appeal(0, 0);
        DUE.is("a fault at the end", Due.orders(x, 0, "class 5 when 1=1;class 6 when 1=1;charge 5 is 9;charge 0 is 8;"
                + "hours 0 to 9;free when 1=1;grace 9;appeal when 1=1;$"), -1);
        DUE.is("other orders", Due.orders(x, 0, "charge 0 is 7;"), 0);
        DUE.is("no class", x.classOf(0, 0, 0), 0);
        DUE.is("no hours, not free, no grace, no appeal", x.charge(0, 0, 0), 7);
        Due.orders(x, 0, "class 5 when 1=1;class 6 when 2=2;$");
        Due.orders(x, 0, "class 3 when 1=2;charge 0 is 7;charge 5 is 3;");
        DUE.is("no other class", x.classOf(0, 0, 0), 0);
        DUE.is("no other charge", x.charge(0, 0, 0), 7);
        Due.orders(x, 0, "class 5 when 1=1;class 6 when 2=2;$");
        Due.orders(x, 0, "class 3 when 1=2;free when 1=1;charge 0 is 7;");
        DUE.is("no class by another line's e", x.classOf(0, 0, 0), 0);
        DUE.is("free", x.charge(0, 0, 0), 0);
    }

    private static void classIs(String e, int want) {
        AirZone x = new AirZone();
        x.plate(Due.signs("aaaaaa"), 0);
        x.papers(0, 0, 2, 3, 4, 1);
        Due.orders(x, 0, "class 1 when " + e + ";");
        DUE.is(e, x.classOf(0, 7, 0), want);
    }

    private static void sums() {
        classIs("fuel=2 and norm=3 and kind=4 and home=1 and day=7", 1);
        classIs("fuel-norm-kind=0-5", 1);
        classIs("fuel-norm+kind=3", 1);
        classIs("fuel<norm", 1);
        classIs("norm<norm", 0);
        classIs("norm>norm", 0);
        classIs("norm>fuel", 1);
        classIs("fuel=norm", 0);
        classIs("1=1 or 1=2 and 1=2", 1);
        classIs("(1=1 or 1=2) and 1=2", 0);
        classIs("1=2 and 1=2 or 1=1", 1);
        classIs("1=2 and (1=2 or 1=1)", 0);
        classIs("not 1=1 or 1=1", 1);
        classIs("not (1=1 or 1=1)", 0);
        classIs("not not 1=1", 1);
        classIs("not 1=2 and 1=2", 0);
        classIs("1=2 or 1=2 or 1=1", 1);
        classIs("1=1 and 1=1 and 1=2", 0);
        classIs("1=1 and not not not 1=1 or home=0", 0);
        classIs("0001=1", 1);
    }
}
