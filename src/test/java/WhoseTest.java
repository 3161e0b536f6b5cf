/** Promises 15 to 18: WHOSE, the price of a DAY, DOUBLE, INSIDE. */
public final class WhoseTest {
    private static final Due DUE = new Due("WhoseTest");

    public static void main(String[] args) {
        nobody();
        firstOfLikeOnes();
        waysOneCouldDrive();
        fullDay();
        tenPlates();
        knownAt();
        twoBear();
        insideBothWithin();
        insideBothOutside();
        insideOneWithin();
        insideOrder();
        DUE.end();
    }

    /** A row of places, 10 minutes each, a camera at the first seven; p7 stands alone with one. */
    private static AirZone row(String zone) {
        AirZone x = new AirZone();
        StringBuilder text = new StringBuilder(zone);
        for (int n = 0; n < 6; n++) {
            text.append("way p").append(n).append(" p").append(n + 1).append(" 10;");
        }
        for (int n = 0; n < 8; n++) {
            text.append("camera p").append(n).append(" from 0 to 1440;");
        }
        DUE.is("a row", Due.map(x, text.toString()), 14 + (zone.isEmpty() ? 0 : 1));
        return x;
    }

    private static void read(AirZone x, int camera, int minute, String signs) {
        DUE.holds("reading", x.read(camera, 0, minute, Due.signs(signs)) >= 0);
    }

    private static void nobody() {
        AirZone x = row("");
        read(x, 0, 0, "abcdef");
        DUE.is("without plates", x.whose(0, 0), -1);
        DUE.is("nobody costs 4", x.doubt(0, 0), 4);
        x.plate(Due.signs("abcdeg"), 0);
        DUE.is("not like it", x.whose(0, 0), -1);
        x.plate(Due.signs("abcdef"), 0);
        DUE.is("a plate told later", x.whose(0, 0), 1);
        DUE.is("for nothing", x.doubt(0, 0), 0);
        DUE.is("another day", x.doubt(1, 0), 0);
        DUE.is("no day -1", x.doubt(-1, 0), -1);
        DUE.is("no day 100", x.doubt(100, 0), -1);
        DUE.is("no reading 1", x.whose(1, 0), -1);
        DUE.is("no reading -1", x.whose(-1, 0), -1);
        x.papers(0, 0, 0, 0, 0, 0);
        DUE.is("papers are nobody's", x.whose(1, 0), -1);
    }

    private static void firstOfLikeOnes() {
        AirZone x = row("");
        x.plate(Due.signs("ccccc0"), 0);
        x.plate(Due.signs("ccccco"), 0);
        read(x, 0, 0, "ccccc?");
        DUE.is("the first of like plates", x.whose(0, 0), 0);
        read(x, 6, 0, "ccccc?");
        DUE.is("the first reading has the first plate", x.whose(0, 0), 0);
        DUE.is("the next one the other", x.whose(1, 0), 1);
        read(x, 3, 0, "ccccc?");
        DUE.is("nobody comes last", x.whose(0, 0), 0);
        DUE.is("nobody comes last", x.whose(1, 0), 1);
        DUE.is("nobody comes last", x.whose(2, 0), -1);
        DUE.is("its price", x.doubt(0, 0), 6);
        read(x, 3, 1, "ccccc?");
        // readings 2 and 3 go together, so that one of the first two goes without
        DUE.is("the least price of all", x.doubt(0, 0), 7);
        DUE.is("the first keeps its plate", x.whose(0, 0), 0);
        DUE.is("the next one has none", x.whose(1, 0), -1);
        DUE.is("both have the other", x.whose(2, 0), 1);
        DUE.is("both have the other", x.whose(3, 0), 1);
    }

    private static void waysOneCouldDrive() {
        AirZone x = row("");
        x.plate(Due.signs("aaaaaa"), 0);
        read(x, 0, 100, "aaaaaa");
        read(x, 2, 120, "aaaaaa");
        DUE.is("just in time", x.doubt(0, 0), 0);
        read(x, 4, 139, "aaaaaa");
        DUE.is("a minute too soon", x.doubt(0, 0), 4);
        DUE.is("the last told is nobody's", x.whose(2, 0), -1);
        read(x, 4, 138, "aaaaaa");
        DUE.is("both can't be", x.doubt(0, 0), 8);
        read(x, 7, 1000, "aaaaaa");
        DUE.is("no way joins it", x.doubt(0, 0), 12);
        AirZone y = row("");
        y.plate(Due.signs("aaaaaa"), 0);
        read(y, 7, 0, "aaaaaa");
        read(y, 7, 0, "aaaaaa");
        DUE.is("one place at one minute", y.doubt(0, 0), 0);
        read(y, 0, 1439, "aaaaaa");
        DUE.is("never from there", y.whose(2, 0), -1);
        // each two, not just one and the next: p0 at 0, p6 at 30, p0 at 31
        AirZone z = row("");
        z.plate(Due.signs("aaaaaa"), 0);
        read(z, 6, 30, "aaaaaa");
        read(z, 0, 0, "aaaaaa");
        read(z, 0, 31, "aaaaaa");
        DUE.is("the other two are cheaper", z.doubt(0, 0), 4);
        DUE.is("first told, but dear", z.whose(0, 0), -1);
        DUE.is("kept", z.whose(1, 0), 0);
        DUE.is("kept", z.whose(2, 0), 0);
    }

    private static void fullDay() {
        AirZone x = row("");
        String[] plates = {"ooo000", "0oo000", "o0o000", "oo0000", "ooooo0", "oo00oo", "oooo00", "ooo0o0", "ooo00o", "0o0000"};
        for (String plate : plates) {
            x.plate(Due.signs(plate), 0);
        }
        for (int n = 0; n < 7; n++) {
            read(x, n, 0, "ooo000");
        }
        DUE.is("one for nothing, six for 1", x.doubt(0, 0), 6);
        int[] want = {0, 1, 2, 3, 6, 7, 8};
        for (int n = 0; n < 7; n++) {
            DUE.is("whose(" + n + ")", x.whose(n, 0), want[n]);
        }
        DUE.is("seven a day", x.read(0, 0, 0, Due.signs("ooo000")), -1);
    }

    private static void tenPlates() {
        AirZone x = row("");
        for (int n = 0; n < 10; n++) {
            x.plate(Due.signs("aaaaa" + n), 0);
        }
        read(x, 0, 0, "aaaaa9");
        read(x, 1, 0, "aaaaa9");
        read(x, 1, 0, "aaaaa0");
        DUE.is("the tenth", x.whose(0, 0), 9);
        DUE.is("nobody", x.whose(1, 0), -1);
        DUE.is("the first", x.whose(2, 0), 0);
        DUE.is("price", x.doubt(0, 0), 4);
    }

    private static void knownAt() {
        AirZone x = row("");
        x.plate(Due.signs("aaaaaa"), 0);
        read(x, 0, 0, "aaaaa?");
        x.later(5);
        read(x, 6, 0, "aaaaaa");
        DUE.is("as known at 4", x.whose(0, 4), 0);
        DUE.is("does not count at 4", x.whose(1, 4), -1);
        DUE.is("price at 4", x.doubt(0, 4), 1);
        DUE.is("as known at 5", x.whose(0, 5), -1);
        DUE.is("as known at 5", x.whose(1, 5), 0);
        DUE.is("price at 5", x.doubt(0, 5), 4);
        DUE.is("as known at -1", x.doubt(0, -1), 0);
        x.later(1);
        x.untell(1);
        DUE.is("as known at 6", x.whose(0, 6), 0);
        DUE.is("as known at 5 still", x.whose(0, 5), -1);
    }

    private static void twoBear() {
        AirZone x = row("");
        x.plate(Due.signs("aaaaao"), 0);
        read(x, 0, 0, "aaaaao");
        read(x, 6, 60, "aaaaao");
        DUE.is("one could drive it", x.isDouble(0, 0, 0), 0);
        read(x, 3, 1, "aaaaa0");
        read(x, 3, 1, "aaaaa?");
        DUE.is("not like it by 0", x.isDouble(0, 0, 0), 0);
        x.later(3);
        read(x, 6, 59, "aaaaao");
        DUE.is("a minute too soon", x.isDouble(0, 0, 3), 1);
        DUE.is("as known before", x.isDouble(0, 0, 2), 0);
        DUE.is("another day", x.isDouble(0, 1, 3), 0);
        DUE.is("no plate 1", x.isDouble(1, 0, 3), -1);
        DUE.is("no plate -1", x.isDouble(-1, 0, 3), -1);
        DUE.is("no day -1", x.isDouble(0, -1, 3), -1);
        DUE.is("no day 100", x.isDouble(0, 100, 3), -1);
        AirZone y = row("");
        y.plate(Due.signs("aaaaaa"), 0);
        read(y, 0, 0, "aaaaaa");
        read(y, 7, 1439, "aaaaaa");
        DUE.is("no way joins them", y.isDouble(0, 0, 0), 1);
    }

    private static void stays(AirZone x, int least, int most) {
        DUE.is("at least", x.inside(0, 0, false, 0), least);
        DUE.is("at most", x.inside(0, 0, true, 0), most);
    }

    private static AirZone withPlate(String zone) {
        AirZone x = row(zone);
        x.plate(Due.signs("aaaaaa"), 0);
        return x;
    }

    private static void insideBothWithin() {
        // p2, p3 in the zone: from one to the other by p1 or p4 is 30
        AirZone x = withPlate("zone p2 p3;");
        stays(x, 0, 0);
        read(x, 2, 0, "aaaaaa");
        stays(x, 0, 0);
        read(x, 3, 29, "aaaaaa");
        stays(x, 29, 29);
        AirZone y = withPlate("zone p2 p3;");
        read(y, 2, 0, "aaaaaa");
        read(y, 3, 30, "aaaaaa");
        stays(y, 30, 30);
        read(y, 3, 100, "aaaaaa");
        // from p3 to p4 and back: 20
        stays(y, 50, 100);
        AirZone z = withPlate("zone p0 p1 p2 p3 p4 p5 p6;");
        read(z, 0, 0, "aaaaaa");
        read(z, 0, 1000, "aaaaaa");
        stays(z, 1000, 1000);
        DUE.is("no plate 1", z.inside(1, 0, true, 0), -1);
        DUE.is("no plate -1", z.inside(-1, 0, true, 0), -1);
        DUE.is("no day -1", z.inside(0, -1, true, 0), -1);
        DUE.is("no day 100", z.inside(0, 100, false, 0), -1);
        DUE.is("another day", z.inside(0, 1, true, 0), 0);
        DUE.is("as known before", z.inside(0, 0, true, -1), 0);
    }

    private static void insideBothOutside() {
        // p4 in the zone: from p2 to p3 by it is 30
        AirZone x = withPlate("zone p4;");
        read(x, 2, 0, "aaaaaa");
        read(x, 3, 29, "aaaaaa");
        stays(x, 0, 0);
        AirZone y = withPlate("zone p4;");
        read(y, 2, 0, "aaaaaa");
        read(y, 3, 35, "aaaaaa");
        stays(y, 0, 5);
        read(y, 3, 36, "aaaaaa");
        read(y, 3, 60, "aaaaaa");
        stays(y, 0, 9);
        AirZone z = withPlate("zone p7;");
        read(z, 2, 0, "aaaaaa");
        read(z, 3, 1000, "aaaaaa");
        stays(z, 0, 0);
        AirZone w = withPlate("");
        read(w, 2, 0, "aaaaaa");
        read(w, 3, 1000, "aaaaaa");
        stays(w, 0, 0);
    }

    private static void insideOneWithin() {
        AirZone x = withPlate("zone p3;");
        read(x, 2, 0, "aaaaaa");
        read(x, 3, 35, "aaaaaa");
        stays(x, 0, 35);
        read(x, 2, 50, "aaaaaa");
        stays(x, 0, 50);
        read(x, 2, 1000, "bbbbbb");
        stays(x, 0, 50);
    }

    private static void insideOrder() {
        AirZone x = withPlate("zone p3;");
        read(x, 3, 100, "aaaaaa");
        read(x, 2, 50, "aaaaaa");
        read(x, 3, 80, "aaaaaa");
        read(x, 2, 20, "aaaaaa");
        // 20 p2, 50 p2: 30 - 20; 50 p2, 80 p3: 30; 80 p3, 100 p3: 20
        stays(x, 20, 60);
        x.later(1);
        x.untell(3);
        DUE.is("without one", x.inside(0, 0, true, 1), 50);
        DUE.is("as known before", x.inside(0, 0, true, 0), 60);
    }
}
