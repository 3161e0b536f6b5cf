/**
 * Every sentence on ORDERS that names a boundary case has a method of its own, with its words above it
 * (the ORDERS' terms, promise 5).
 */
public final class OrdersEdgesTest {
    private static final Due DUE = new Due("OrdersEdgesTest");
    private static final long A = Due.signs("aaaaaa");

    public static void main(String[] args) {
        atMost700Bytes();
        fromADay();
        sixAtMost();
        noLineAtAll();
        classLinesAtMost6();
        classNumbers();
        chargeOnceForEach();
        chargeCoins();
        hoursBounds();
        hoursSecondAboveFirst();
        graceBounds();
        onceEach();
        unitsInAll();
        nestedBrackets();
        nestedNots();
        nestedBoth();
        whoMayAsk();
        leastAtOnePlace();
        unitsOrNumbers();
        greatestDayNotBehind();
        lastToldOfLikeOnes();
        withoutAny();
        whatTheyDoNotTell();
        theirNumber();
        noneCome();
        tapeStays();
        DUE.end();
    }

    private static void fault(String text, int fault, int place) {
        AirZone x = new AirZone();
        DUE.is("orders '" + text + "'", Due.orders(x, 0, text), -1);
        DUE.is("fault of '" + text + "'", x.fault(0), fault);
        DUE.is("its place in '" + text + "'", x.fault(1), place);
    }

    private static void good(String text) {
        AirZone x = new AirZone();
        DUE.is("orders '" + text + "'", Due.orders(x, 0, text), 0);
        DUE.is("no fault of '" + text + "'", x.fault(0), 0);
        DUE.is("no place of '" + text + "'", x.fault(1), -1);
    }

    /** p1 in the zone with a camera all day, a plate read there at minute 10 on each of the first days. */
    private static AirZone city(int days) {
        AirZone x = new AirZone();
        Due.map(x, "way p0 p1 5;zone p1;camera p1 from 0 to 1440;");
        x.plate(A, 0);
        for (int day = 0; day < days; day++) {
            x.read(0, day, 10, A);
        }
        return x;
    }

    // texts of at most 700 bytes; -2, and the TAPE stays: more than 700 bytes
    private static void atMost700Bytes() {
        AirZone x = city(1);
        String text = " ".repeat(687) + "charge 0 is 7";
        Due.tape(x, text + ";");
        DUE.is("701 bytes", x.orders(0), -2);
        DUE.is("stay", x.about(9), 701);
        DUE.is("no orders", x.about(3), 0);
        x.end(0);
        DUE.is("700 bytes", Due.orders(x, 0, text.substring(1) + ";"), 0);
        DUE.is("are read to their end", x.charge(0, 0, 0), 7);
        Due.tape(x, " ".repeat(900));
        DUE.is("900 bytes", x.orders(0), -2);
        DUE.is("stay", x.about(9), 900);
        fault(" ".repeat(699) + "$", 1, 699);
        fault("grace" + " ".repeat(695), 2, 700);
    }

    // from a DAY (0 .. 99) on; -2, and the TAPE stays: .. no such DAY
    private static void fromADay() {
        int[] bad = {-1, 100, 101, Integer.MAX_VALUE, Integer.MIN_VALUE};
        for (int day : bad) {
            AirZone x = new AirZone();
            DUE.is("day " + day, Due.orders(x, day, "grace 1;"), -2);
            DUE.is("the tape stays", x.about(9), 8);
            DUE.is("day 0", x.orders(0), 0);
            DUE.is("day " + day + " with a fault", Due.orders(x, day, "grace"), -2);
            DUE.is("no fault", x.fault(0), 0);
        }
        AirZone y = city(0);
        DUE.is("day 99", Due.orders(y, 99, "class 4 when 1=1;"), 0);
        DUE.is("on day 99", y.classOf(0, 99, 0), 4);
        DUE.is("on day 98", y.classOf(0, 98, 0), 0);
        DUE.is("day 0", Due.orders(y, 0, "class 5 when 1=1;"), 1);
        DUE.is("on day 0", y.classOf(0, 0, 0), 5);
    }

    // 6 at most; -2, and the TAPE stays: .. or 6 of them
    private static void sixAtMost() {
        AirZone x = city(0);
        for (int n = 0; n < 6; n++) {
            DUE.is("orders " + n, Due.orders(x, n, "class " + (n + 1) + " when 1=1;"), n);
        }
        DUE.is("a seventh", Due.orders(x, 0, "class 9 when 1=1;"), -2);
        DUE.is("the tape stays", x.about(9), 17);
        DUE.is("six there are", x.about(3), 6);
        for (int n = 0; n < 6; n++) {
            DUE.is("those of day " + n, x.classOf(0, n, 0), n + 1);
        }
    }

    // orders = {line}
    private static void noLineAtAll() {
        good("");
        good(" \n");
        fault(";", 2, 0);
        fault("grace 1;;", 2, 8);
    }

    // At most 6 class lines .. 2 (a line too many: at its first word ..)
    private static void classLinesAtMost6() {
        String six = "class 1 when fuel=1;class 2 when fuel=2;class 3 when fuel=3;class 4 when fuel=4;"
                + "class 5 when fuel=5;class 6 when fuel=6;";
        AirZone x = city(0);
        Due.orders(x, 0, six);
        for (int fuel = 0; fuel < 8; fuel++) {
            x.papers(0, fuel, fuel, 0, 0, 0);
            DUE.is("fuel " + fuel, x.classOf(0, fuel, 0), fuel < 7 ? fuel : 0);
        }
        fault(six + "class 7 when fuel=7;", 2, six.length());
        fault(six + "class $", 2, six.length());
        fault(six + "grace 1;class 7", 2, six.length() + 8);
    }

    // class lines (N 0 .. 9)
    private static void classNumbers() {
        for (int n = 0; n < 10; n++) {
            AirZone x = city(0);
            Due.orders(x, 0, "class " + n + " when 1=1;");
            DUE.is("class " + n, x.classOf(0, 0, 0), n);
        }
        fault("class 10 when 1=1;", 4, 6);
        fault("class 9999", 4, 6);
        fault("class -1 when 1=1;", 2, 6);
    }

    // a charge .. once for each class 0 .. 9; 2 (.. a charge a second time at its class ..)
    private static void chargeOnceForEach() {
        StringBuilder ten = new StringBuilder();
        for (int n = 0; n < 10; n++) {
            ten.append("charge ").append(n).append(" is ").append(10 * n).append(";");
        }
        good(ten.toString());
        for (int n = 0; n < 10; n++) {
            fault(ten + "charge " + n + " is 5;", 2, ten.length() + 7);
            fault(ten + "charge 000" + n, 2, ten.length() + 7);
            AirZone x = city(1);
            Due.orders(x, 0, ten + "class " + n + " when 1=1;");
            DUE.is("charge of class " + n, x.charge(0, 0, 0), 10 * n);
        }
        fault("charge 10 is 5;", 4, 7);
        fault(ten + "charge 10 is 5;", 4, ten.length() + 7);
        fault("charge 5 is 0;charge 5 is 0;", 2, 21);
    }

    // a charge (0 .. 999)
    private static void chargeCoins() {
        int[] coins = {0, 1, 999};
        for (int charge : coins) {
            AirZone x = city(1);
            Due.orders(x, 0, "charge 0 is " + charge + ";");
            DUE.is("charge " + charge, x.charge(0, 0, 0), charge);
        }
        fault("charge 0 is 1000;", 4, 12);
        fault("charge 0 is 9999;", 4, 12);
        fault("charge 0 is 10000;", 1, 12);
    }

    // hours (0 .. 1440 ..)
    private static void hoursBounds() {
        good("hours 0 to 1440;");
        good("hours 0 to 1;");
        good("hours 1439 to 1440;");
        fault("hours 1441 to 1440;", 4, 6);
        fault("hours 0 to 1441;", 4, 11);
        fault("hours 1440 to 1441;", 4, 14);
    }

    // (.. the second above the first)
    private static void hoursSecondAboveFirst() {
        good("hours 700 to 701;");
        fault("hours 700 to 700;", 4, 13);
        fault("hours 700 to 699;", 4, 13);
        fault("hours 0 to 0;", 4, 11);
        fault("hours 1440 to 1440;", 4, 14);
    }

    // grace (0 .. 20)
    private static void graceBounds() {
        AirZone x = city(22);
        Due.orders(x, 0, "charge 0 is 7;grace 20;");
        for (int day = 0; day < 22; day++) {
            DUE.is("day " + day, x.charge(0, day, 0), day < 20 ? 0 : 7);
        }
        good("grace 0;");
        fault("grace 21;", 4, 6);
        fault("grace 9999;", 4, 6);
    }

    // free, grace .., appeal once each; hours; 2 (a line too many: at its first word ..)
    private static void onceEach() {
        String[] lines = {"hours 1 to 2;", "free when 1=1;", "grace 0;", "appeal when 1=1;"};
        String all = String.join("", lines);
        good(all);
        for (String line : lines) {
            fault(line + line, 2, line.length());
            fault(all + line, 2, all.length());
            fault(all + line.substring(0, line.indexOf(' ')) + "$", 2, all.length());
        }
    }

    /** A comparison of so many units. */
    private static String sum(int units) {
        return "1" + "+1".repeat(units - 2) + "=1";
    }

    // 50 units in all; 2 (.. a 51st unit .. : at its first TOKEN ..)
    private static void unitsInAll() {
        good("free when " + sum(50) + ";");
        fault("free when " + sum(51) + ";", 2, 10 + 100);
        good("class 1 when " + sum(20) + ";free when " + sum(28) + ";appeal when 1=1;");
        String fifty = "class 1 when " + sum(20) + ";free when " + sum(30) + ";";
        good(fifty);
        fault(fifty + "appeal when minute=1;", 2, fifty.length() + 12);
        fault(fifty + "class 1 when fuel=1;", 2, fifty.length() + 13);
        String pairs = "free when 1=1" + " and 1=1".repeat(24);
        good(pairs + ";");
        fault(pairs + " or 1=1;", 2, pairs.length() + 4);
        fault(pairs + " or (1=1);", 2, pairs.length() + 5);
        fault(pairs + " or not 1=1;", 2, pairs.length() + 8);
        // the units of one text are not those of the next one
        AirZone x = new AirZone();
        DUE.is("50 units", Due.orders(x, 0, "free when " + sum(50) + ";"), 0);
        DUE.is("50 units and a fault", Due.orders(x, 0, "free when " + sum(50) + ";$"), -1);
        DUE.is("50 units again", Due.orders(x, 0, "free when " + sum(50) + ";"), 1);
        // numbers that are no units are not counted
        good("free when " + sum(50) + ";charge 1 is 2;hours 3 to 4;grace 5;");
    }

    // a ( e ) .. within 6 others at most; 2 (.. what is within 7 others: at its first TOKEN ..)
    private static void nestedBrackets() {
        good("free when " + "(".repeat(7) + "1=1" + ")".repeat(7) + ";");
        fault("free when " + "(".repeat(8) + "1=1" + ")".repeat(8) + ";", 2, 17);
        good("free when " + ("(".repeat(7) + "1=1" + ")".repeat(7) + " or ").repeat(3) + "1=1;");
        good("free when ((((((1=1 and (1=1) and (1=1 or 1=1)))))));");
        fault("free when ((((((1=1 and (1=1 and (1=1", 2, 33);
        good("free when (((((((fuel+1=1)))))));appeal when (((((((1=1)))))));");
    }

    // or a one behind not, within 6 others at most; 2 (.. what is within 7 others: at .. the not)
    private static void nestedNots() {
        good("free when " + "not ".repeat(7) + "1=1;");
        fault("free when " + "not ".repeat(8) + "1=1;", 2, 38);
        good("free when " + ("not ".repeat(7) + "1=1 and ").repeat(2) + "1=1;");
        fault("free when 1=1 and " + "not ".repeat(8) + "1=1;", 2, 46);
    }

    // a ( e ), or a one behind not, within 6 others at most
    private static void nestedBoth() {
        good("free when ((((((not 1=1))))));");
        fault("free when (((((((not 1=1)))))));", 2, 17);
        good("free when not not not not not not (1=1);");
        fault("free when not not not not not not not (1=1);", 2, 38);
        good("free when not (not (not (not 1=1)));");
        fault("free when not (not (not (not (1=1))));", 2, 29);
        good("free when ((((((1=1 and not 1=1))))));");
        fault("free when (((((((1=1 and not 1=1)))))));", 2, 25);
    }

    // class is asked in free and appeal alone, minute and entries in appeal alone; 6
    private static void whoMayAsk() {
        String[] units = {"fuel", "norm", "kind", "home", "day", "class", "minute", "entries"};
        String[] lines = {"class 1 when ", "free when ", "appeal when "};
        int[] asked = {5, 6, 8};
        for (int line = 0; line < 3; line++) {
            for (int unit = 0; unit < 8; unit++) {
                String text = lines[line] + units[unit] + "=1;";
                if (unit < asked[line]) {
                    good(text);
                    good(lines[line] + "1<1+" + units[unit] + ";");
                } else {
                    fault(text, 6, lines[line].length());
                    fault(lines[line] + "1<1+" + units[unit] + ";", 6, lines[line].length() + 4);
                    fault(lines[line] + "not (" + units[unit] + " $", 6, lines[line].length() + 5);
                }
            }
        }
    }

    // FAULTS, at one place the least: 1 .. 2 .. 4 .. 6
    private static void leastAtOnePlace() {
        String fifty = "free when " + sum(50) + ";";
        fault(fifty + "class 1 when minute=1;", 2, fifty.length() + 13);
        fault(fifty + "class 1 when 12345=1;", 1, fifty.length() + 13);
        fault("free when (((((((1=1 and $", 1, 25);
        fault("grace 21x;", 1, 6);
        fault("grace 1;$", 1, 8);
        fault("class 1 when 1=1 class", 2, 17);
        fault("class 1 when classclas=1;", 1, 13);
    }

    // unit = N | fuel | ..; one = .. sum (< | > | =) sum
    private static void unitsOrNumbers() {
        good("free when 0=9999;");
        fault("free when 10000=1;", 1, 10);
        fault("free when hours=1;", 2, 10);
        fault("free when when=1;", 2, 10);
        fault("free when p1=1;", 2, 10);
        fault("free when +1=1;", 2, 10);
        fault("free when 1;", 2, 11);
        fault("free when 1<;", 2, 12);
        fault("free when 1<>1;", 2, 12);
        fault("free when 1=1 1;", 2, 14);
        fault("free when;", 2, 9);
        AirZone x = city(0);
        x.papers(0, 0, 9, 9, 9, 1);
        Due.orders(x, 0, "class 1 when 0-9999-9999<0-9999-9998 and 9999+9999>9999+9998 and fuel+norm+kind+home=28;");
        DUE.is("below 0 and above 9999", x.classOf(0, 0, 0), 1);
    }

    // On a DAY those of the greatest DAY that is not behind it are in force
    private static void greatestDayNotBehind() {
        AirZone x = city(0);
        Due.orders(x, 50, "class 5 when 1=1;");
        Due.orders(x, 10, "class 1 when 1=1;");
        Due.orders(x, 99, "class 9 when 1=1;");
        int[] days = {0, 9, 10, 49, 50, 98, 99};
        int[] want = {0, 0, 1, 1, 5, 5, 9};
        for (int n = 0; n < days.length; n++) {
            DUE.is("on day " + days[n], x.classOf(0, days[n], 0), want[n]);
        }
    }

    // of like ones the last told
    private static void lastToldOfLikeOnes() {
        AirZone x = city(2);
        Due.orders(x, 0, "charge 0 is 1;");
        Due.orders(x, 1, "charge 0 is 2;");
        Due.orders(x, 0, "charge 0 is 3;");
        DUE.is("the last told", x.charge(0, 0, 0), 3);
        DUE.is("of like ones alone", x.charge(0, 1, 0), 2);
    }

    // without any nobody ENTERS, and all CLASSES and charges are 0
    private static void withoutAny() {
        AirZone x = city(3);
        x.trip(0, 1, 9, 1, 0);
        DUE.is("enters", x.entries(0, 99, 0), 0);
        DUE.is("class", x.classOf(0, 1, 0), 0);
        DUE.is("charge", x.charge(0, 1, 0), 0);
        DUE.is("account", x.account(0, 0, 99, 0), 0);
        DUE.is("around", x.around(1), 0);
        Due.orders(x, 2, "class 3 when 1=1;charge 3 is 7;charge 0 is 5;");
        DUE.is("enters from then on", x.entries(0, 99, 0), 1);
        DUE.is("class ahead of them", x.classOf(0, 1, 0), 0);
        DUE.is("charge ahead of them", x.charge(0, 1, 0), 0);
        DUE.is("class by them", x.classOf(0, 2, 0), 3);
        DUE.is("charge by them", x.charge(0, 2, 0), 7);
        // by p1 in the zone it is shorter; it would cost 50, but not on a day ahead of the orders
        AirZone y = new AirZone();
        Due.map(y, "way p0 p1 1;way p1 p2 1;way p0 p2 9;zone p1;");
        Due.orders(y, 1, "charge 0 is 50;");
        y.trip(0, 2, 9, 1, 0);
        DUE.is("minutes ahead of them", y.minutes(0, 0, true), 2);
        DUE.is("minutes by them", y.minutes(0, 1, true), 9);
    }

    // What they do not tell: no class line: class 0; charge 0; hours 0 to 1440; nobody free; grace 0; no appeal holds
    private static void whatTheyDoNotTell() {
        AirZone x = city(0);
        x.papers(0, 0, 1, 0, 0, 0);
        x.read(0, 0, 0, A);
        x.read(0, 1, 1439, A);
        x.appeal(0, 0);
        Due.orders(x, 0, "");
        DUE.is("class 0", x.classOf(0, 0, 0), 0);
        DUE.is("charge 0", x.charge(0, 0, 0), 0);
        DUE.is("hours 0 to 1440", x.entries(0, 2, 0), 2);
        Due.orders(x, 0, "charge 0 is 7;");
        DUE.is("of class 0, not free, no grace, no appeal", x.charge(0, 0, 0), 7);
        DUE.is("at minute 1439", x.charge(0, 1, 0), 7);
        Due.orders(x, 0, "class 1 when fuel=1;charge 0 is 7;");
        DUE.is("class 1 without a charge", x.charge(0, 0, 0), 0);
        Due.orders(x, 0, "charge 0 is 7;free when 1=2;appeal when 1=2;");
        DUE.is("none holds", x.charge(0, 0, 0), 7);
    }

    // The TAPE (empty then) is ORDERS from a DAY on: their number
    private static void theirNumber() {
        AirZone x = new AirZone();
        DUE.is("the first", Due.orders(x, 99, "grace 1;"), 0);
        DUE.is("no bytes then", x.about(9), 0);
        DUE.is("the second", x.orders(0), 1);
        DUE.is("two there are", x.about(3), 2);
    }

    // NONE: a FAULT (none come)
    private static void noneCome() {
        AirZone x = city(1);
        Due.orders(x, 0, "charge 0 is 5;");
        for (int n = 0; n < 8; n++) {
            DUE.is("a fault", Due.orders(x, 0, "charge 0 is 9;grace 0"), -1);
            DUE.is("no bytes then", x.about(9), 0);
            DUE.is("none come", x.about(3), 1);
            DUE.is("the charge stays", x.charge(0, 0, 0), 5);
        }
        DUE.is("the next number", Due.orders(x, 0, "charge 0 is 6;"), 1);
        DUE.is("the charge by them", x.charge(0, 0, 0), 6);
        // what long texts with a FAULT told takes no room from the next one
        for (int n = 0; n < 12; n++) {
            DUE.is("50 units and a fault", Due.orders(x, 0, "class 1 when " + sum(50) + ";$"), -1);
        }
        String pairs = "1=2" + " or 1=2".repeat(23) + " or not not not not not not not 1=2;";
        DUE.is("50 units", Due.orders(x, 0, "class 7 when " + pairs), 2);
        DUE.is("are read to their end", x.classOf(0, 0, 0), 7);
    }

    // -2, and the TAPE stays
    private static void tapeStays() {
        AirZone x = city(1);
        Due.tape(x, "charge 0 is 5;");
        DUE.is("no such day", x.orders(100), -2);
        DUE.is("the same bytes", x.orders(0), 0);
        DUE.is("told whole", x.charge(0, 0, 0), 5);
    }
}
