/**
 * Every sentence on the TAPE, TOKENS, the MAP and BETWEEN that names a boundary case has a method of its
 * own, with its words above it (the MAP's terms, promises 1 to 4, 6 and 7).
 */
public final class MapEdgesTest {
    private static final Due DUE = new Due("MapEdgesTest");
    private static final String WAY = "way p0 p1 5;";

    public static void main(String[] args) {
        emptyAtFirst();
        atMost900Bytes();
        words();
        numbers();
        points();
        signsAndBlanks();
        asLongAsCanBe();
        noLetterBehind();
        waysAtMost24();
        wayMinutes();
        eitherWay();
        zoneOnce();
        zonePointsOnce();
        camerasAtMost8();
        cameraAtAPoint();
        cameraMinutes();
        secondAboveFirst();
        endOfTheText();
        firstByPlace();
        leastAtOnePlace();
        firstLikeSecond();
        ownWayOfNothing();
        newObject();
        twentyBytes();
        moreThan900();
        firstBytes();
        notSoMany();
        tapeIsEmptyThen();
        howManyLines();
        noneAfterMap();
        thatThereIsStays();
        faultOfTheLatest();
        noOtherFault();
        betweenNone();
        DUE.end();
    }

    private static void fault(String text, int fault, int place) {
        TextTest.faultOf(DUE, text, fault, place);
    }

    private static AirZone good(String text, int lines) {
        AirZone x = new AirZone();
        DUE.is("map '" + text + "'", Due.map(x, text), lines);
        DUE.is("no fault of '" + text + "'", x.fault(0), 0);
        return x;
    }

    /** A text of so many bytes: one line in front, blanks, and another text at the end. */
    private static String stretched(int length, String last) {
        StringBuilder text = new StringBuilder(WAY);
        while (text.length() < length - last.length()) {
            text.append(text.length() % 2 == 0 ? ' ' : '\n');
        }
        return text.append(last).toString();
    }

    // A MAP is a text .. (empty at first)
    private static void emptyAtFirst() {
        AirZone x = new AirZone();
        for (int a = 0; a < 12; a++) {
            for (int b = 0; b < 12; b++) {
                DUE.is("no way at first", x.between(a, b), a == b ? 0 : -1);
            }
        }
        DUE.is("no way", x.load(0, 0, false), -1);
        DUE.is("no camera", x.read(0, 0, 0, Due.signs("aaaaaa")), -1);
        DUE.is("no zone", x.about(1), 0);
        DUE.is("no trip", x.trip(0, 1, 1, 1, 0), -1);
    }

    // A MAP is a text of at most 900 bytes
    private static void atMost900Bytes() {
        AirZone x = good(stretched(900, "way p1 p2 6;"), 2);
        DUE.is("the line at the end", x.between(1, 2), 6);
        fault(stretched(900, "$"), 1, 899);
        fault(stretched(900, "way p1 p2 6"), 2, 900);
        fault(stretched(900, "5"), 2, 899);
        fault(stretched(899, "way"), 2, 899);
        // as many TOKENS as bytes
        fault(";".repeat(900), 2, 0);
        fault(WAY + "-".repeat(888), 2, 12);
        fault(";".repeat(899) + "$", 2, 0);
    }

    // words (a .. z, 8 at most)
    private static void words() {
        for (char letter = 'a'; letter <= 'z'; letter++) {
            String eight = String.valueOf(letter).repeat(8);
            fault(eight, 2, 0);
            fault(eight + letter, 1, 0);
            fault(String.valueOf(letter), 2, 0);
        }
        fault("zone abcdefgh;", 2, 5);
        fault("zone abcdefghi;", 1, 5);
        fault("zone abcdefghabcdefgh;", 1, 5);
        fault("zone abcdefgh1;", 2, 5);
        fault("zonezone ", 2, 0);
        fault("zone p0;zonezonez", 1, 8);
    }

    // N (1 to 4 digits)
    private static void numbers() {
        String[] forms = {"7", "07", "007", "0007"};
        for (String form : forms) {
            DUE.is("minutes " + form, good("way p0 p1 " + form + ";", 1).between(0, 1), 7);
        }
        fault("way p0 p1 00007;", 1, 10);
        fault("way p0 p1 000007;", 1, 10);
        fault("way p0 p1 9999;", 4, 10);
        fault("way p0 p1 99999;", 1, 10);
        fault("way p0 p1 4294967297;", 1, 10);
        fault("camera p0 from 00000 to 1;", 1, 15);
        fault("camera p0 from 0 to 01440;", 1, 20);
    }

    // P (p and one or two digits, 0 .. 11, no letter or digit behind)
    private static void points() {
        for (int n = 0; n < 100; n++) {
            String two = "p" + n / 10 + n % 10;
            if (n < 12) {
                AirZone x = good("way " + two + " p" + (n + 1) % 12 + " 3;", 1);
                DUE.is(two, x.between(n, (n + 1) % 12), 3);
            } else {
                fault("zone " + two + ";", 2, 5);
            }
        }
        for (int n = 0; n < 10; n++) {
            DUE.is("p" + n, good("way p" + n + " p11 3;", 1).between(n, 11), 3);
            fault("zone p01" + n + ";", 2, 5);
            fault("zone p11" + n + ";", 2, 5);
        }
        for (char letter = 'a'; letter <= 'z'; letter++) {
            fault("zone p1" + letter + ";", 2, 5);
            fault("zone p11" + letter + ";", 2, 5);
            fault("zone p" + letter + ";", 2, 5);
        }
        fault("zone p;", 2, 5);
        fault("zone p 1;", 2, 5);
        fault("zone 1;", 2, 5);
        good("zone p1 p2;", 1);
        DUE.is("a sign may be behind", good("zone p11;", 1).about(1), 1);
    }

    // signs ; ( ) < > = + -; blanks (32, 10)
    private static void signsAndBlanks() {
        for (int sign = 0; sign < 256; sign++) {
            String text = String.valueOf((char) sign);
            boolean isToken = sign >= 'a' && sign <= 'z' || sign >= '0' && sign <= '9' || ";()<>=+-".indexOf(sign) >= 0;
            if (sign == 32 || sign == 10) {
                good(text, 0);
                good(text + WAY + text, 1);
            } else {
                fault(text, isToken ? 2 : 1, 0);
                fault(WAY + text, isToken ? 2 : 1, 12);
                fault("way " + text, isToken ? 2 : 1, 4);
            }
        }
    }

    // blanks part them or not; each is as long as can be
    private static void asLongAsCanBe() {
        DUE.is("p11 and 12", good("way p1 p11 12;", 1).between(1, 11), 12);
        DUE.is("parted by none", good("way p1\np11\n \n12;way p2 p3 4;zone p1;", 3).between(2, 3), 4);
        fault("way p1 p1 1;", 5, 7);
        fault("way p1 p1 1 1;", 5, 7);
        fault("way p0 p1 1 1;", 2, 12);
        fault("zonep0;", 2, 0);
        fault("camera p0 fromto", 2, 10);
        DUE.is("signs part them", good("zone p0;camera p0 from0 to1440;", 2).about(2), 1);
    }

    // no letter directly behind an N
    private static void noLetterBehind() {
        for (char letter = 'a'; letter <= 'z'; letter++) {
            fault("way p0 p1 5" + letter, 1, 10);
            fault("way p0 p1 5 " + letter, 2, 12);
            fault("way p0 p1 9999" + letter, 1, 10);
        }
        fault("camera p0 from 0to 5;", 1, 15);
        good("camera p0 from 0 to5;", 1);
    }

    // At most 24 WAYS .. 2 .. (a 25th WAY .. at the line's first word)
    private static void waysAtMost24() {
        AirZone x = good(WAY.repeat(23) + "way p2 p3 9;", 24);
        DUE.is("24 ways", x.about(0), 24);
        DUE.is("the last of them", x.between(2, 3), 9);
        DUE.is("load of the last", x.load(23, 0, false), 0);
        DUE.is("no load of a 25th", x.load(24, 0, false), -1);
        fault(WAY.repeat(24) + WAY, 2, 288);
        fault(WAY.repeat(24) + "way $", 2, 288);
        fault(WAY.repeat(24) + "zone;", 2, 292);
    }

    // (minutes 1 .. 99 ..) .. 4 a number that can't be
    private static void wayMinutes() {
        DUE.is("1", good("way p0 p1 1;", 1).between(0, 1), 1);
        DUE.is("99", good("way p0 p1 99;", 1).between(0, 1), 99);
        fault("way p0 p1 0;", 4, 10);
        fault("way p0 p1 0000;", 4, 10);
        fault("way p0 p1 100;", 4, 10);
        fault("way p0 p1 100 $", 4, 10);
    }

    // (.. either way)
    private static void eitherWay() {
        AirZone x = good("way p9 p2 5;", 1);
        DUE.is("there", x.between(9, 2), 5);
        DUE.is("back", x.between(2, 9), 5);
    }

    // zone once .. 2 .. (.. zone a second time: at the line's first word)
    private static void zoneOnce() {
        DUE.is("once", good("zone p0;" + WAY, 2).about(1), 1);
        fault("zone p0;zone p1;", 2, 8);
        fault("zone p0;" + WAY + "zone p0;", 2, 20);
        fault("zone p0;zone;", 2, 8);
        fault("zone p0 zone p1;", 2, 8);
    }

    // each P of it once .. 5 .. a P of the zone .. told already
    private static void zonePointsOnce() {
        DUE.is("all twelve", good("zone p11 p10 p9 p8 p7 p6 p5 p4 p3 p2 p1 p0;", 1).about(1), 12);
        for (int n = 0; n < 12; n++) {
            String point = "p" + n;
            fault("zone " + point + " " + point, 5, 6 + point.length());
        }
        fault("zone p0 p1 p00;", 5, 11);
        fault("zone p0 p1 p2 p3 p4 p5 p6 p7 p8 p9 p10 p11 p0", 5, 43);
        fault("zone;", 2, 4);
        fault("zone", 2, 4);
    }

    // 8 CAMERAS .. 2 .. (.. a 9th CAMERA ..: at the line's first word)
    private static void camerasAtMost8() {
        StringBuilder eight = new StringBuilder();
        for (int n = 4; n < 12; n++) {
            eight.append("camera p").append(n).append(" from 0 to 1440;");
        }
        AirZone x = good(eight.toString(), 8);
        DUE.is("8 cameras", x.about(2), 8);
        DUE.is("a reading by the eighth", x.read(7, 0, 0, Due.signs("aaaaaa")), 0);
        DUE.is("none by a ninth", x.read(8, 0, 0, Due.signs("aaaaaa")), -1);
        fault(eight + "camera p0 from 0 to 1;", 2, eight.length());
        fault(eight + "camera p4", 2, eight.length());
        DUE.is("8 more in the next text", Due.map(x, eight.toString()), 8);
        DUE.is("are 8", x.about(2), 8);
    }

    // (one at a P ..) .. 5 .. or of a CAMERA, told already
    private static void cameraAtAPoint() {
        String camera = "camera p3 from 0 to 1;";
        fault(camera + "camera p3 from 1 to 2;", 5, 29);
        fault(camera + "camera p03", 5, 29);
        DUE.is("one beside it", good(camera + "camera p4 from 1 to 2;", 2).about(2), 2);
        DUE.is("one at a P of the zone", good("zone p3;" + camera, 2).about(2), 1);
    }

    // (.. MINUTES 0 .. 1440, from one to another one, that not ..)
    private static void cameraMinutes() {
        AirZone x = good("camera p0 from 0 to 1440;camera p1 from 5 to 6;", 2);
        long signs = Due.signs("aaaaaa");
        DUE.is("minute 0", x.read(0, 0, 0, signs), 0);
        DUE.is("minute 1439", x.read(0, 0, 1439, signs), 1);
        DUE.is("that not", x.read(0, 0, 1440, signs), -1);
        DUE.is("ahead of the first", x.read(1, 0, 4, signs), -1);
        DUE.is("the first", x.read(1, 0, 5, signs), 2);
        DUE.is("that not", x.read(1, 0, 6, signs), -1);
        fault("camera p0 from 1441 to 1442;", 4, 15);
        fault("camera p0 from 0 to 1441;", 4, 20);
        fault("camera p0 from 9999 to 9999;", 4, 15);
    }

    // the second above the first
    private static void secondAboveFirst() {
        good("camera p0 from 7 to 8;", 1);
        good("camera p0 from 1439 to 1440;", 1);
        fault("camera p0 from 7 to 7;", 4, 20);
        fault("camera p0 from 7 to 6;", 4, 20);
        fault("camera p0 from 1440 to 1440;", 4, 23);
        fault("camera p0 from 0 to 0;", 4, 20);
    }

    // (bytes from 0; the end: the text's length)
    private static void endOfTheText() {
        fault("$", 1, 0);
        fault(" $", 1, 1);
        fault("way", 2, 3);
        fault("way \n ", 2, 6);
        fault("way p0 p1 5", 2, 11);
        fault("zone p0 ", 2, 8);
        AirZone x = new AirZone();
        Due.tape(x, "zone p0;");
        x.end(4);
        DUE.is("cut off", x.map(), -1);
        DUE.is("a fault at the end", x.fault(0), 2);
        DUE.is("the text's length", x.fault(1), 4);
    }

    // FAULTS, the first by its place
    private static void firstByPlace() {
        fault("way p0 p0 0 $", 5, 7);
        fault("way p0 p1 0;zone p1 p1;", 4, 10);
        fault("zone p1 p1;way p0 p1 0;", 5, 8);
        fault("zone;$", 2, 4);
        fault("$zone;", 1, 0);
        fault("zone p0;zone $", 2, 8);
        fault("camera p0 from 9 to 8;camera p0", 4, 20);
    }

    // at one place the least: 1 no TOKEN; 2 one that can't stand there ..
    private static void leastAtOnePlace() {
        fault(WAY.repeat(24) + "$", 1, 288);
        fault(WAY.repeat(24) + "waywayway", 1, 288);
        fault("way p0 p1 0a", 1, 10);
        fault("way p0 p1 12345", 1, 10);
        fault("camera p0 from 1441x", 1, 15);
        fault("zone p1 p1x", 2, 8);
    }

    // 5 a second P of a WAY like the first
    private static void firstLikeSecond() {
        for (int n = 0; n < 12; n++) {
            String point = "p" + n;
            fault("way " + point + " " + point + " 5;", 5, 5 + point.length());
        }
        fault("way p1 p01 0;", 5, 7);
        good("way p1 p11 1;", 1);
    }

    // BETWEEN two P: the least minutes by WAYS (0 from one to itself)
    private static void ownWayOfNothing() {
        AirZone x = good("way p0 p1 9;way p1 p2 9;way p0 p2 19;way p0 p1 8;way p0 p1 10;", 5);
        DUE.is("the least of three", x.between(0, 1), 8);
        DUE.is("by another P", x.between(0, 2), 17);
        for (int n = 0; n < 12; n++) {
            DUE.is("to itself", x.between(n, n), 0);
        }
        StringBuilder row = new StringBuilder();
        for (int n = 0; n < 11; n++) {
            row.append("way p").append(n).append(" p").append(n + 1).append(" 99;");
        }
        DUE.is("the longest there is", good(row.toString(), 11).between(11, 0), 1089);
    }

    // AirZone(): An empty MAP, no orders, no PLATES.
    private static void newObject() {
        AirZone x = new AirZone();
        for (int what = 0; what < 10; what++) {
            DUE.is("about(" + what + ")", x.about(what), 0);
        }
        DUE.is("the first orders", x.orders(0), 0);
        DUE.is("the first plate", x.plate(Due.signs("aaaaaa"), 0), 0);
        DUE.is("the first fact", x.appeal(0, 0), 0);
        AirZone y = new AirZone();
        DUE.is("another object has none of them", y.about(3) + y.about(4) + y.about(5), 0);
    }

    // Twenty bytes come behind those on the TAPE, the highest of each first: how many there are
    private static void twentyBytes() {
        AirZone x = new AirZone();
        DUE.is("zone", x.feed(0x7a6f6e65, 0x20703020, 0x70312070, 0x32207033, 0x20202020), 20);
        DUE.is("end(16)", x.end(16), 16);
        DUE.is("behind those", x.feed(0x3b776179, 0x20703020, 0x70312036, 0x3b202020, 0x20202020), 36);
        DUE.is("two lines", x.map(), 2);
        DUE.is("of the zone", x.about(1), 4);
        DUE.is("a way", x.between(0, 1), 6);
        DUE.is("ints below 0 are bytes above 127", x.feed(-1, -1, -1, -1, -1), 20);
        DUE.is("that are no token", x.map(), -1);
        DUE.is("no token", x.fault(0), 1);
        // each of the twenty has its place
        for (int at = 0; at < 20; at++) {
            int[] five = {0x20202020, 0x20202020, 0x20202020, 0x20202020, 0x20202020};
            five[at / 4] ^= 0x04 << 24 - at % 4 * 8;
            x.feed(five[0], five[1], five[2], five[3], five[4]);
            DUE.is("a $ at " + at, x.map(), -1);
            DUE.is("its place", x.fault(1), at);
        }
    }

    // NONE, and nothing comes, if there would be more than 900
    private static void moreThan900() {
        AirZone x = new AirZone();
        Due.tape(x, stretched(881, "zone p1;"));
        DUE.is("901", x.feed(0x24242424, 0x24242424, 0x24242424, 0x24242424, 0x24242424), -1);
        DUE.is("nothing comes", x.about(9), 881);
        DUE.is("the text is as it was", x.map(), 2);
        AirZone y = new AirZone();
        Due.tape(y, stretched(880, "zone p1;"));
        DUE.is("900", y.feed(0x20202020, 0x20202020, 0x20202020, 0x20202020, 0x2020203b), 900);
        DUE.is("920", y.feed(0, 0, 0, 0, 0), -1);
        DUE.is("the last byte counts", y.map(), -1);
        DUE.is("its place", y.fault(1), 899);
    }

    // The TAPE has its first n bytes: n
    private static void firstBytes() {
        AirZone x = new AirZone();
        Due.tape(x, "zone p0;zone p1;");
        DUE.is("all", x.end(16), 16);
        DUE.is("the first 8", x.end(8), 8);
        DUE.is("8 there are", x.about(9), 8);
        DUE.is("one line", x.map(), 1);
        DUE.is("end(0)", x.end(0), 0);
        Due.tape(x, "zone p0;");
        DUE.is("none of them", x.end(0), 0);
        DUE.is("an empty map", x.map(), 0);
        DUE.is("no zone", x.about(1), 0);
    }

    // NONE, doing nothing, if it has not so many, or n is below 0
    private static void notSoMany() {
        AirZone x = new AirZone();
        DUE.is("one of none", x.end(1), -1);
        Due.tape(x, "zone p0;");
        int[] bad = {9, 20, 900, 901, -1, -8, Integer.MAX_VALUE, Integer.MIN_VALUE};
        for (int n : bad) {
            DUE.is("end(" + n + ")", x.end(n), -1);
            DUE.is("nothing is done", x.about(9), 8);
        }
        DUE.is("the text is as it was", x.map(), 1);
    }

    // The TAPE (empty then) is the MAP
    private static void tapeIsEmptyThen() {
        AirZone x = new AirZone();
        Due.tape(x, WAY);
        DUE.is("a map", x.map(), 1);
        DUE.is("no bytes then", x.about(9), 0);
        Due.tape(x, "way$");
        DUE.is("a fault", x.map(), -1);
        DUE.is("no bytes then", x.about(9), 0);
        DUE.is("an empty map", x.map(), 0);
        DUE.is("no way", x.about(0), 0);
    }

    // how many lines
    private static void howManyLines() {
        good("", 0);
        good(" \n", 0);
        good("zone p0;", 1);
        good(WAY + "zone p0;camera p0 from 0 to 1;" + WAY, 4);
    }

    // (READINGS and TRIPS are none then; FACTS keep their numbers)
    private static void noneAfterMap() {
        AirZone x = new AirZone();
        String town = WAY + "zone p1;camera p1 from 0 to 1440;";
        Due.map(x, town);
        x.plate(Due.signs("aaaaaa"), 0);
        Due.orders(x, 0, "charge 0 is 5;");
        for (int n = 0; n < 7; n++) {
            x.read(0, 0, n, Due.signs("aaaaaa"));
        }
        x.appeal(0, 0);
        x.read(0, 99, 0, Due.signs("aaaaaa"));
        x.trip(0, 1, 9, 1, 0);
        DUE.is("an entry", x.entries(0, 99, 0), 1);
        DUE.is("the same map", Due.map(x, town), 3);
        for (int fact = 0; fact < 9; fact++) {
            DUE.is("no reading " + fact, x.like(fact, 0), -1);
            DUE.is("of nobody " + fact, x.whose(fact, 0), -1);
            DUE.is("untell of " + fact, x.untell(fact), fact == 7);
        }
        DUE.is("no entry", x.entries(0, 99, 0), 0);
        DUE.is("no charge", x.charge(0, 99, 0), 0);
        DUE.is("not inside", x.inside(0, 0, true, 0), 0);
        DUE.is("not double", x.isDouble(0, 0, 0), 0);
        DUE.is("no trips", x.about(7), 0);
        DUE.is("no load", x.load(0, 0, false), 0);
        DUE.is("nothing to see", x.seen(0, 3), 0);
        DUE.is("the next number", x.read(0, 0, 0, Due.signs("aaaaaa")), 9);
        DUE.is("the first trip", x.trip(0, 1, 9, 1, 0), 0);
        DUE.is("plates stay", x.about(4), 1);
        DUE.is("orders stay", x.about(3), 1);
    }

    // NONE: a FAULT (that there is stays)
    private static void thatThereIsStays() {
        AirZone x = new AirZone();
        Due.map(x, WAY + "zone p1;camera p1 from 10 to 20;");
        x.plate(Due.signs("aaaaaa"), 0);
        x.read(0, 0, 10, Due.signs("aaaaaa"));
        x.trip(0, 1, 9, 1, 0);
        String[] bad = {"way p0 p1 7;$", "zone p0 p1 p2;zone", "camera p0 from 0 to 1440;way p2 p3 1;camera p0", "way"};
        for (String text : bad) {
            DUE.is(text, Due.map(x, text), -1);
            DUE.is("the way stays", x.between(0, 1), 5);
            DUE.is("no other way", x.between(2, 3), -1);
            DUE.is("the zone stays", x.about(1), 1);
            DUE.is("the camera stays", x.about(2), 1);
            DUE.is("the reading stays", x.whose(0, 0), 0);
            DUE.is("the trip stays", x.minutes(0, 0, false), 5);
        }
        DUE.is("the camera's minutes stay", x.read(0, 0, 9, Due.signs("aaaaaa")), -1);
    }

    // Of the latest of both that was not -2 what 0: its FAULT (0), 1: its place (NONE)
    private static void faultOfTheLatest() {
        AirZone x = new AirZone();
        faults(x, 0, -1);
        Due.map(x, "zone p0 p0;");
        faults(x, 5, 8);
        Due.orders(x, 0, "grace 21;");
        faults(x, 4, 6);
        Due.orders(x, 100, "grace 21 $");
        faults(x, 4, 6);
        x.end(0);
        Due.map(x, "$");
        faults(x, 1, 0);
        x.orders(-1);
        faults(x, 1, 0);
        x.orders(0);
        faults(x, 0, -1);
        Due.orders(x, 0, "grace;");
        faults(x, 2, 5);
        x.map();
        faults(x, 0, -1);
        for (int n = 1; n < 6; n++) {
            x.orders(0);
        }
        Due.map(x, "way p0");
        faults(x, 2, 6);
        DUE.is("a seventh", x.orders(0), -2);
        faults(x, 2, 6);
    }

    private static void faults(AirZone x, int fault, int place) {
        DUE.is("fault(0)", x.fault(0), fault);
        DUE.is("fault(1)", x.fault(1), place);
    }

    // NONE for another what
    private static void noOtherFault() {
        AirZone x = new AirZone();
        Due.map(x, "way");
        int[] bad = {2, -1, 3, 256, Integer.MAX_VALUE, Integer.MIN_VALUE};
        for (int what : bad) {
            DUE.is("fault(" + what + ")", x.fault(what), -1);
        }
    }

    // BETWEEN two P; NONE if there is no way, or no such P
    private static void betweenNone() {
        AirZone x = good(WAY + "way p10 p11 6;", 2);
        DUE.is("a way", x.between(11, 10), 6);
        DUE.is("no way", x.between(1, 10), -1);
        int[] bad = {12, -1, 144, 100, Integer.MAX_VALUE, Integer.MIN_VALUE};
        for (int point : bad) {
            DUE.is("no such P", x.between(point, 0), -1);
            DUE.is("no such P", x.between(0, point), -1);
            DUE.is("no such P", x.between(point, point), -1);
        }
    }
}
