/** Promises 4, 6 and 7: MAP, its FAULTS, BETWEEN. */
public final class MapTest {
    private static final Due DUE = new Due("MapTest");

    public static void main(String[] args) {
        lines();
        faults();
        limits();
        between();
        whatGoes();
        DUE.end();
    }

    private static void lines() {
        AirZone x = new AirZone();
        DUE.is("an empty text", x.map(), 0);
        DUE.is("two lines", Due.map(x, "zone p3;way p0 p1 1;"), 2);
        DUE.is("a fault", Due.map(x, "way p0 p1 7;zone;"), -1);
        DUE.is("the tape is empty then", x.about(9), 0);
        DUE.is("the map stays", x.between(0, 1), 1);
        DUE.is("its zone stays", x.about(1), 1);
        DUE.is("an empty text again", x.map(), 0);
        DUE.is("no ways then", x.between(0, 1), -1);
        DUE.is("no zone then", x.about(1), 0);
        DUE.is("minutes 99", Due.map(x, "way p0 p1 99;"), 1);
        DUE.is("a camera of one minute", Due.map(x, "camera p0 from 1439 to 1440;"), 1);
    }

    private static void fault(String text, int fault, int place) {
        TextTest.faultOf(DUE, text, fault, place);
    }

    private static void faults() {
        fault("road p0;", 2, 0);
        fault("p0", 2, 0);
        fault("class 1 when 1=1;", 2, 0);
        fault("way p0 p1 5;;", 2, 12);
        fault("way 0 p1 5;", 2, 4);
        fault("way p0 5;", 2, 7);
        fault("way p0 p1;", 2, 9);
        fault("way p0 p1 p2;", 2, 10);
        fault("way p0 p0 5;", 5, 7);
        fault("way p0 p1 0;", 4, 10);
        fault("way p0 p1 100;", 4, 10);
        fault("way p0 p1 5 6;", 2, 12);
        fault("zone;", 2, 4);
        fault("zone p0 5;", 2, 8);
        fault("zone p0 p1 p0;", 5, 11);
        fault("zone p0", 2, 7);
        fault("zone p0;way p0 p1 1;zone p1;", 2, 20);
        fault("camera from 0 to 1;", 2, 7);
        fault("camera p0 0 to 1;", 2, 10);
        fault("camera p0 from p0 to 1;", 2, 15);
        fault("camera p0 from 0 from 1;", 2, 17);
        fault("camera p0 from 0 to;", 2, 19);
        fault("camera p0 from 1441 to 1442;", 4, 15);
        fault("camera p0 from 1440 to 1440;", 4, 23);
        fault("camera p0 from 0 to 1441;", 4, 20);
        fault("camera p0 from 5 to 5;", 4, 20);
        fault("camera p0 from 5 to 4;", 4, 20);
        fault("camera p0 from 0 to 1", 2, 21);
        fault("camera p0 from 0 to 1;camera p0 from 2 to 3;", 5, 29);
        // a fault is one, though all behind it might stand
        fault("way way p0 p1 5;", 2, 4);
        fault("way p0 way p0 p1 5;", 2, 7);
        fault("way p0 p1 5 way p0 p1 5;", 2, 12);
        fault("zone way p0 p1 5;", 2, 5);
        fault("zone p0 way p0 p1 5;", 2, 8);
        fault("camera way p0 p1 5;", 2, 7);
        fault("camera p0 way p0 p1 5;", 2, 10);
        fault("camera p0 from way p0 p1 5;", 2, 15);
        fault("camera p0 from 0 way p0 p1 5;", 2, 17);
        fault("camera p0 from 0 to way p0 p1 5;", 2, 20);
        fault("camera p0 from 0 to 1 way p0 p1 5;", 2, 22);
    }

    private static void limits() {
        String way = "way p0 p1 5;";
        StringBuilder ways = new StringBuilder();
        for (int n = 0; n < 24; n++) {
            ways.append(way);
        }
        AirZone x = new AirZone();
        DUE.is("24 ways", Due.map(x, ways.toString()), 24);
        DUE.is("counted", x.about(0), 24);
        fault(ways + "way", 2, 24 * way.length());
        fault(ways + "way p0 p0", 2, 24 * way.length());
        StringBuilder cameras = new StringBuilder();
        for (int n = 0; n < 8; n++) {
            cameras.append("camera p").append(n).append(" from 0 to 1;");
        }
        DUE.is("8 cameras", Due.map(x, cameras.toString()), 8);
        fault(cameras + "camera p0", 2, cameras.length());
        DUE.is("a zone of all", Due.map(x, "zone p0 p1 p2 p3 p4 p5 p6 p7 p8 p9 p10 p11;"), 1);
        DUE.is("12 of it", x.about(1), 12);
        fault("zone p0 p1 p2 p3 p4 p5 p6 p7 p8 p9 p10 p11 p3;", 5, 43);
        fault("zone p0 p1 p2 p3 p4 p5 p6 p7 p8 p9 p10 p11 5;", 2, 43);
    }

    private static void between() {
        AirZone x = new AirZone();
        Due.map(x, "way p0 p1 9;way p1 p0 7;way p1 p2 3;way p0 p2 11;way p10 p11 4;");
        DUE.is("the shorter of two", x.between(0, 1), 7);
        DUE.is("either way", x.between(1, 0), 7);
        DUE.is("by another", x.between(0, 2), 10);
        DUE.is("and back", x.between(2, 0), 10);
        DUE.is("one to itself", x.between(2, 2), 0);
        DUE.is("one without ways to itself", x.between(7, 7), 0);
        DUE.is("no way joins them", x.between(0, 10), -1);
        DUE.is("p11", x.between(11, 10), 4);
        DUE.is("no p12", x.between(12, 12), -1);
        DUE.is("no p-1", x.between(-1, 0), -1);
        DUE.is("no p-1 behind", x.between(0, -1), -1);
        DUE.is("none far off", x.between(Integer.MAX_VALUE, Integer.MIN_VALUE), -1);
    }

    private static void whatGoes() {
        AirZone x = new AirZone();
        String town = "way p0 p1 5;zone p1;camera p1 from 0 to 1440;";
        Due.map(x, town);
        Due.orders(x, 0, "class 1 when fuel=1;charge 1 is 9;");
        x.plate(Due.signs("abc123"), 0);
        for (int n = 0; n < 7; n++) {
            x.read(0, 0, n, Due.signs("abc123"));
        }
        x.papers(0, 0, 1, 0, 0, 0);
        x.trip(0, 1, 3, 1, 0);
        x.read(0, 1, 3, Due.signs("xxxxxx"));
        DUE.is("doubt before", x.doubt(1, 0), 4);
        DUE.is("a charge before", x.charge(0, 0, 0), 9);
        DUE.is("a fault", Due.map(x, "way"), -1);
        DUE.is("leaves readings", x.like(6, 0), 0);
        DUE.is("leaves trips", x.about(7), 1);
        DUE.is("a map anew", Due.map(x, town), 3);
        DUE.is("no reading then", x.like(6, 0), -1);
        DUE.is("of nobody", x.whose(6, 0), -1);
        DUE.is("no trips then", x.about(7), 0);
        DUE.is("no trip's minutes", x.minutes(0, 0, false), -1);
        DUE.is("no charge then", x.charge(0, 0, 0), 0);
        DUE.is("no doubt then", x.doubt(0, 0), 0);
        DUE.is("no doubt then", x.doubt(1, 0), 0);
        DUE.is("papers stay", x.classOf(0, 0, 0), 1);
        DUE.is("facts keep their numbers", x.about(5), 9);
        DUE.is("the next one's number", x.read(0, 0, 5, Due.signs("abc123")), 9);
        DUE.is("a day has room again", x.read(0, 0, 6, Due.signs("abc123")), 10);
        DUE.is("a charge again", x.charge(0, 0, 0), 9);
        DUE.is("a reading that is none can't be untold", x.untell(6), false);
        DUE.is("nor the last of them", x.untell(8), false);
        DUE.is("those that came since can", x.untell(10), true);
        DUE.is("papers' number stays", x.untell(7), true);
        DUE.is("they do not count then", x.classOf(0, 0, 0), 0);
    }
}
