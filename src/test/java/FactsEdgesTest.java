/**
 * Every sentence on PLATES, FACTS, TIME and LIKE that names a boundary case has a method of its own, with
 * its words above it (their terms, promises 8 to 14).
 */
public final class FactsEdgesTest {
    private static final Due DUE = new Due("FactsEdgesTest");
    private static final int LEAST = Integer.MIN_VALUE;
    private static final int GREATEST = Integer.MAX_VALUE;
    private static final long A = Due.signs("aaaaaa");

    public static void main(String[] args) {
        platesAtMost10();
        sixSigns();
        fleets();
        lowestSixBytes();
        suchAPlate();
        factsAtMost200();
        numberOfAFact();
        timeFromZero();
        toldAtKOrBefore();
        untoldAtKOrBefore();
        papersValues();
        papersNotBehind();
        papersLastTold();
        withoutPapers();
        papersDoNothing();
        sevenOfADay();
        cameraThatWorks();
        signsOrUnseen();
        readDoesNothing();
        appealBounds();
        untellTwice();
        untellNone();
        laterBounds();
        laterAbove100000();
        likeNoMoreThan2();
        likeEachSign();
        likeLooks();
        likeNone();
        DUE.end();
    }

    /** p0 outside with a camera all day, p1 in the zone with one from 60 to 61. */
    private static AirZone city() {
        AirZone x = new AirZone();
        Due.map(x, "way p0 p1 5;zone p1;camera p0 from 0 to 1440;camera p1 from 60 to 61;");
        x.plate(A, 0);
        return x;
    }

    // PLATES, 10 at most; NONE: .. or there are 10
    private static void platesAtMost10() {
        AirZone x = new AirZone();
        for (int n = 0; n < 10; n++) {
            DUE.is("plate " + n, x.plate(Due.signs("aaaaa" + n), n), n);
        }
        DUE.is("an eleventh", x.plate(Due.signs("bbbbbb"), 0), -1);
        DUE.is("10 there are", x.about(4), 10);
        DUE.is("papers of the tenth", x.papers(9, 0, 0, 0, 0, 0), 0);
        DUE.is("none of an eleventh", x.papers(10, 0, 0, 0, 0, 0), -1);
    }

    // six signs (a .. z, 0 .. 9); NONE: one is no sign
    private static void sixSigns() {
        for (int sign = 0; sign < 256; sign++) {
            boolean is = sign >= 'a' && sign <= 'z' || sign >= '0' && sign <= '9';
            for (int place = 0; place < 6; place++) {
                AirZone x = new AirZone();
                long signs = A & ~(255L << 8 * place) | (long) sign << 8 * place;
                DUE.is("sign " + sign + " at " + place, x.plate(signs, 0), is ? 0 : -1);
                DUE.is("plates", x.about(4), is ? 1 : 0);
            }
        }
    }

    // a fleet (0 .. 9); NONE: .. no such fleet
    private static void fleets() {
        int[] bad = {-1, 10, 11, LEAST, GREATEST};
        AirZone x = new AirZone();
        for (int fleet : bad) {
            DUE.is("fleet " + fleet, x.plate(A, fleet), -1);
        }
        DUE.is("none came", x.about(4), 0);
        DUE.is("fleet 9", x.plate(A, 9), 0);
        DUE.is("fleet 0", x.plate(Due.signs("bbbbbb"), 0), 1);
    }

    // its signs are the lowest six bytes, the first one highest
    private static void lowestSixBytes() {
        AirZone x = city();
        DUE.is("higher bytes", x.plate(Due.signs("bcdefg") | 0xffffL << 48, 0), 1);
        DUE.is("such a one", x.plate(Due.signs("bcdefg"), 0), -1);
        DUE.is("another order", x.plate(Due.signs("gfedcb"), 0), 2);
        x.read(0, 0, 0, Due.signs("bcdefg") | Long.MIN_VALUE);
        DUE.is("like it", x.like(0, 1), 0);
        DUE.is("not like the other", x.like(0, 2), 9);
        DUE.is("higher bytes alone", x.plate(0xffffL << 48, 0), -1);
    }

    // NONE: .. there is such a PLATE
    private static void suchAPlate() {
        AirZone x = city();
        DUE.is("of the same fleet", x.plate(A, 0), -1);
        DUE.is("of another fleet", x.plate(A, 1), -1);
        DUE.is("one there is", x.about(4), 1);
        DUE.is("one that looks so is another", x.plate(Due.signs("aaaaa0"), 0), 1);
        DUE.is("one that looks so is another", x.plate(Due.signs("aaaaao"), 0), 2);
    }

    // FACTS, 200 at most; NONE, doing nothing, if .. there are 200
    private static void factsAtMost200() {
        AirZone x = city();
        Due.orders(x, 0, "class 1 when fuel=1;class 2 when fuel=2;charge 2 is 7;appeal when 1=1;");
        x.papers(0, 0, 2, 0, 0, 0);
        x.read(1, 0, 60, A);
        for (int n = 2; n < 199; n++) {
            DUE.is("appeal " + n, x.appeal(0, 99), n);
        }
        DUE.is("the 200th", x.appeal(0, 98), 199);
        for (int n = 0; n < 2; n++) {
            DUE.is("a 201st appeal", x.appeal(0, 0), -1);
            DUE.is("201st papers", x.papers(0, 0, 1, 0, 0, 0), -1);
            DUE.is("a 201st reading", x.read(0, 0, 0, A), -1);
            DUE.is("200 there are", x.about(5), 200);
            DUE.is("no papers came", x.classOf(0, 0, 0), 2);
            DUE.is("no appeal came", x.charge(0, 0, 0), 7);
            DUE.is("no reading came", x.like(200, 0), -1);
            DUE.is("untold ones are told still", x.untell(100 + n), true);
        }
        DUE.is("the 200th is told", x.untell(199), true);
        DUE.is("there is no 201st", x.untell(200), false);
        DUE.is("nor with a new map", Due.map(x, "camera p0 from 0 to 1440;"), 1);
        DUE.is("200 there are", x.read(0, 0, 0, A), -1);
    }

    // the FACT's number
    private static void numberOfAFact() {
        AirZone x = city();
        DUE.is("papers", x.papers(0, 0, 0, 0, 0, 0), 0);
        DUE.is("a reading", x.read(0, 0, 0, A), 1);
        DUE.is("an appeal", x.appeal(0, 0), 2);
        DUE.is("refused", x.appeal(0, 100), -1);
        x.untell(2);
        DUE.is("papers", x.papers(0, 0, 0, 0, 0, 0), 3);
        DUE.is("four there are", x.about(5), 4);
    }

    // TOLD at a TIME (0 at first, goes on)
    private static void timeFromZero() {
        AirZone x = city();
        DUE.is("0 at first", x.about(6), 0);
        x.read(0, 0, 0, A);
        DUE.is("known at 0", x.whose(0, 0), 0);
        DUE.is("goes on", x.later(4), 4);
        x.read(0, 0, 1, A);
        DUE.is("not known at 3", x.whose(1, 3), -1);
        DUE.is("known at 4", x.whose(1, 4), 0);
    }

    // AS KNOWN at k one counts that was TOLD at k or before
    private static void toldAtKOrBefore() {
        AirZone x = city();
        x.later(10);
        Due.orders(x, 0, "class 1 when fuel=1;charge 1 is 7;appeal when 1=1;");
        x.papers(0, 0, 1, 0, 0, 0);
        x.read(1, 0, 60, A);
        int[] k = {LEAST, -1, 0, 9, 10, 11, 100000, GREATEST};
        for (int n = 0; n < k.length; n++) {
            DUE.is("papers at " + k[n], x.classOf(0, 0, k[n]), n < 4 ? 0 : 1);
            DUE.is("reading at " + k[n], x.whose(1, k[n]), n < 4 ? -1 : 0);
            DUE.is("charge at " + k[n], x.charge(0, 0, k[n]), n < 4 ? 0 : 7);
        }
        x.later(1);
        x.appeal(0, 0);
        DUE.is("appeal at 10", x.charge(0, 0, 10), 7);
        DUE.is("appeal at 11", x.charge(0, 0, 11), 0);
    }

    // and not UNTOLD at k or before; UNTOLD at a later one or the same
    private static void untoldAtKOrBefore() {
        AirZone x = city();
        Due.orders(x, 0, "class 1 when fuel=1;charge 1 is 7;appeal when 1=1;");
        x.papers(0, 0, 1, 0, 0, 0);
        x.read(1, 0, 60, A);
        x.appeal(0, 0);
        x.later(5);
        x.untell(2);
        DUE.is("appeal at 4", x.charge(0, 0, 4), 0);
        DUE.is("appeal at 5", x.charge(0, 0, 5), 7);
        x.later(5);
        x.untell(0);
        DUE.is("papers at 9", x.classOf(0, 0, 9), 1);
        DUE.is("papers at 10", x.classOf(0, 0, 10), 0);
        x.later(5);
        x.untell(1);
        DUE.is("reading at 14", x.entries(0, 1, 14), 1);
        DUE.is("reading at 15", x.entries(0, 1, 15), 0);
        DUE.is("reading at the greatest", x.entries(0, 1, GREATEST), 0);
        x.papers(0, 0, 1, 0, 0, 0);
        x.untell(3);
        DUE.is("told and untold at 15", x.classOf(0, 0, 15), 0);
        DUE.is("counts never", x.classOf(0, 0, GREATEST), 0);
        DUE.is("counts never", x.classOf(0, 0, 14), 0);
    }

    // PAPERS of a PLATE from a DAY on: fuel (0 .. 9), norm (0 .. 9), kind (0 .. 9), home (0, 1)
    private static void papersValues() {
        String[] units = {"fuel", "norm", "kind", "home"};
        int[] most = {9, 9, 9, 1};
        for (int unit = 0; unit < 4; unit++) {
            AirZone x = city();
            Due.orders(x, 0, "class 1 when " + units[unit] + "=0;class 2 when " + units[unit] + "=" + most[unit]
                    + ";class 3 when " + units[unit] + "=4;");
            int[] v = new int[4];
            for (int value : new int[] {0, 4, most[unit]}) {
                v[unit] = value;
                boolean can = value <= most[unit];
                DUE.is(units[unit] + " " + value, x.papers(0, 0, v[0], v[1], v[2], v[3]) >= 0, can);
                if (can) {
                    DUE.is("class by it", x.classOf(0, 0, 0), value == 0 ? 1 : value == most[unit] ? 2 : 3);
                }
            }
            for (int bad : new int[] {-1, most[unit] + 1, LEAST, GREATEST}) {
                v[unit] = bad;
                DUE.is(units[unit] + " " + bad, x.papers(0, 0, v[0], v[1], v[2], v[3]), -1);
            }
        }
        AirZone y = city();
        Due.orders(y, 0, "class 1 when fuel=9 and norm=9 and kind=9 and home=1;class 2 when fuel=0 and norm=9 and kind=8 and home=0;");
        y.papers(0, 0, 9, 9, 9, 1);
        y.papers(0, 1, 0, 9, 8, 0);
        DUE.is("all at their most", y.classOf(0, 0, 0), 1);
        DUE.is("each its own", y.classOf(0, 1, 0), 2);
    }

    // those of a DAY are of the greatest DAY not behind it
    private static void papersNotBehind() {
        AirZone x = city();
        Due.orders(x, 0, "class 1 when fuel=1;class 2 when fuel=2;class 3 when fuel=3;");
        x.papers(0, 99, 3, 0, 0, 0);
        x.papers(0, 0, 1, 0, 0, 0);
        x.papers(0, 50, 2, 0, 0, 0);
        int[] days = {0, 1, 49, 50, 98, 99};
        int[] want = {1, 1, 1, 2, 2, 3};
        for (int n = 0; n < days.length; n++) {
            DUE.is("on day " + days[n], x.classOf(0, days[n], 0), want[n]);
        }
    }

    // of like ones the last TOLD
    private static void papersLastTold() {
        AirZone x = city();
        Due.orders(x, 0, "class 1 when fuel=1;class 2 when fuel=2;class 3 when fuel=3;");
        x.papers(0, 5, 1, 0, 0, 0);
        x.papers(0, 5, 2, 0, 0, 0);
        x.papers(0, 4, 3, 0, 0, 0);
        DUE.is("at one time, too", x.classOf(0, 5, 0), 2);
        x.later(1);
        x.papers(0, 5, 3, 0, 0, 0);
        DUE.is("told later", x.classOf(0, 5, 1), 3);
        DUE.is("as known before", x.classOf(0, 5, 0), 2);
        x.untell(1);
        DUE.is("still the last told", x.classOf(0, 5, 1), 3);
        x.untell(3);
        DUE.is("the last told that counts", x.classOf(0, 5, 1), 1);
    }

    // without any all are 0
    private static void withoutPapers() {
        AirZone x = city();
        Due.orders(x, 0, "class 1 when fuel=0 and norm=0 and kind=0 and home=0;class 2 when 1=1;");
        DUE.is("no papers", x.classOf(0, 0, 0), 1);
        x.papers(0, 1, 1, 0, 0, 0);
        DUE.is("ahead of papers", x.classOf(0, 0, 0), 1);
        DUE.is("by papers", x.classOf(0, 1, 0), 2);
        x.plate(Due.signs("bbbbbb"), 0);
        DUE.is("another's papers", x.classOf(1, 1, 0), 1);
    }

    // NONE, doing nothing, if one can't be
    private static void papersDoNothing() {
        AirZone x = city();
        Due.orders(x, 0, "class 1 when fuel=0 and norm=0 and kind=0 and home=0;class 2 when 1=1;");
        int[][] bad = {{1, 0, 1, 1, 1, 1}, {-1, 0, 1, 1, 1, 1}, {0, -1, 1, 1, 1, 1}, {0, 100, 1, 1, 1, 1},
            {0, 0, 10, 1, 1, 1}, {0, 0, 1, 10, 1, 1}, {0, 0, 1, 1, 10, 1}, {0, 0, 1, 1, 1, 2}, {0, 0, -1, 1, 1, 1},
            {0, 0, 1, -1, 1, 1}, {0, 0, 1, 1, -1, 1}, {0, 0, 1, 1, 1, -1}, {GREATEST, 0, 1, 1, 1, 1}, {0, LEAST, 1, 1, 1, 1}};
        for (int[] b : bad) {
            DUE.is("papers", x.papers(b[0], b[1], b[2], b[3], b[4], b[5]), -1);
            DUE.is("nothing was done", x.classOf(0, 99, 0), 1);
            DUE.is("no fact", x.about(5), 0);
        }
    }

    // READINGS (of one DAY 7 at most, UNTOLD ones, too); (also if .. there are 7 of that DAY ..)
    private static void sevenOfADay() {
        AirZone x = city();
        for (int n = 0; n < 7; n++) {
            DUE.is("reading " + n, x.read(0, 0, n, A), n);
        }
        DUE.is("an eighth", x.read(0, 0, 7, A), -1);
        for (int n = 0; n < 7; n++) {
            x.untell(n);
            DUE.is("untold ones, too", x.read(0, 0, 7, A), -1);
        }
        DUE.is("seven facts", x.about(5), 7);
        DUE.is("day 1", x.read(0, 1, 0, A), 7);
        DUE.is("day 99", x.read(0, 99, 0, A), 8);
        DUE.is("appeals of the day", x.appeal(0, 0), 9);
        DUE.is("papers of the day", x.papers(0, 0, 0, 0, 0, 0), 10);
    }

    // by a CAMERA (0 ..), on a DAY, at a MINUTE at which it works; (also if it does not work at the MINUTE ..)
    private static void cameraThatWorks() {
        AirZone x = city();
        int[] minutes = {LEAST, -1, 0, 59, 60, 61, 1439, 1440, GREATEST};
        int[] byFirst = {-1, -1, 0, 1, 2, 4, 5, -1, -1};
        int[] bySecond = {-1, -1, -1, -1, 3, -1, -1, -1, -1};
        for (int n = 0; n < minutes.length; n++) {
            DUE.is("camera 0 at " + minutes[n], x.read(0, 0, minutes[n], A), byFirst[n]);
            DUE.is("camera 1 at " + minutes[n], x.read(1, 0, minutes[n], A), bySecond[n]);
        }
        for (int camera : new int[] {-1, 2, 8, LEAST, GREATEST}) {
            DUE.is("camera " + camera, x.read(camera, 1, 60, A), -1);
        }
        for (int day : new int[] {-1, 100, LEAST, GREATEST}) {
            DUE.is("day " + day, x.read(0, day, 60, A), -1);
        }
    }

    // six signs, ? for one that was not seen; (.. signs as of a PLATE, or ?)
    private static void signsOrUnseen() {
        AirZone x = city();
        int told = 0;
        for (int sign = 0; sign < 256; sign++) {
            boolean is = sign >= 'a' && sign <= 'z' || sign >= '0' && sign <= '9' || sign == '?';
            for (int place = 0; place < 6; place += 5) {
                long signs = A & ~(255L << 8 * place) | (long) sign << 8 * place;
                DUE.is("sign " + sign + " at " + place, x.read(0, told / 7, 0, signs), is ? told : -1);
                told += is ? 1 : 0;
            }
        }
        DUE.is("all unseen", x.read(0, 99, 0, Due.signs("??????")), told);
        DUE.is("like none", x.like(told, 0), 9);
    }

    // likewise (NONE, doing nothing, if one can't be)
    private static void readDoesNothing() {
        AirZone x = city();
        DUE.is("no camera", x.read(2, 0, 0, A), -1);
        DUE.is("no sign", x.read(0, 0, 0, Due.signs("aaaaaA")), -1);
        DUE.is("no minute", x.read(1, 0, 0, A), -1);
        DUE.is("no fact", x.about(5), 0);
        DUE.is("no price", x.doubt(0, 0), 0);
        for (int n = 0; n < 7; n++) {
            DUE.is("all seven of the day", x.read(0, 0, 0, A), n);
        }
    }

    // An APPEAL: likewise
    private static void appealBounds() {
        AirZone x = new AirZone();
        DUE.is("without plates", x.appeal(0, 0), -1);
        AirZone y = city();
        int[] bad = {-1, 100, LEAST, GREATEST};
        for (int n : bad) {
            DUE.is("plate " + n, y.appeal(n, 0), -1);
            DUE.is("day " + n, y.appeal(0, n), -1);
        }
        DUE.is("plate 1", y.appeal(1, 0), -1);
        DUE.is("no fact", y.about(5), 0);
        DUE.is("day 0", y.appeal(0, 0), 0);
        DUE.is("day 99", y.appeal(0, 99), 1);
        Due.orders(y, 0, "charge 0 is 7;appeal when 1=1;");
        y.read(1, 0, 60, A);
        DUE.is("the first fact counts", y.charge(0, 0, 0), 0);
    }

    // A FACT is UNTOLD: true; false if it is so already
    private static void untellTwice() {
        AirZone x = city();
        x.papers(0, 0, 0, 0, 0, 0);
        x.read(0, 0, 0, A);
        x.appeal(0, 0);
        for (int fact = 0; fact < 3; fact++) {
            DUE.is("untold " + fact, x.untell(fact), true);
            DUE.is("so already " + fact, x.untell(fact), false);
        }
        x.later(5);
        for (int fact = 0; fact < 3; fact++) {
            DUE.is("so already, later " + fact, x.untell(fact), false);
        }
        AirZone y = city();
        y.read(0, 0, 0, A);
        y.later(5);
        y.untell(0);
        y.later(5);
        y.untell(0);
        DUE.is("untold at 5, not at 10", y.whose(0, 5), -1);
        DUE.is("untold at 5, not before", y.whose(0, 4), 0);
    }

    // or there is none such
    private static void untellNone() {
        AirZone x = city();
        int[] bad = {0, 1, -1, 199, 200, LEAST, GREATEST};
        for (int fact : bad) {
            DUE.is("none " + fact, x.untell(fact), false);
        }
        x.appeal(0, 0);
        DUE.is("none 1", x.untell(1), false);
        DUE.is("fact 0", x.untell(0), true);
    }

    // So much later (0 .. 1000): the TIME; NONE, doing nothing, for another number
    private static void laterBounds() {
        AirZone x = new AirZone();
        DUE.is("0", x.later(0), 0);
        DUE.is("1000", x.later(1000), 1000);
        DUE.is("0", x.later(0), 1000);
        int[] bad = {-1, 1001, -1000, LEAST, GREATEST};
        for (int by : bad) {
            DUE.is("later(" + by + ")", x.later(by), -1);
            DUE.is("the time", x.about(6), 1000);
        }
    }

    // or if it would be above 100,000
    private static void laterAbove100000() {
        AirZone x = new AirZone();
        for (int n = 1; n <= 99; n++) {
            x.later(1000);
        }
        DUE.is("99,500", x.later(500), 99500);
        DUE.is("100,001", x.later(501), -1);
        DUE.is("100,500", x.later(1000), -1);
        DUE.is("nothing was done", x.about(6), 99500);
        DUE.is("100,000", x.later(500), 100000);
        DUE.is("100,001", x.later(1), -1);
        DUE.is("100,000", x.later(0), 100000);
    }

    private static int price(String read, String plate) {
        AirZone x = new AirZone();
        Due.map(x, "camera p0 from 0 to 1440;");
        x.plate(Due.signs(plate), 0);
        x.read(0, 0, 0, Due.signs(read));
        return x.like(0, 0);
    }

    // together no more than 2; otherwise it is not LIKE it; 9 if it is not
    private static void likeNoMoreThan2() {
        String[] reads = {"o1b5zu", "?1b5zu", "?1b5z?", "?1b?z?", "01b5zu", "0ib5zu", "0i85zu", "?i85zu", "0?b5zv", "?i85zx",
            "??????", "xxxxxx", "?1b5zx", "o1b5zx"};
        int[] want = {0, 1, 2, 9, 1, 2, 9, 9, 9, 9, 9, 9, 9, 9};
        for (int n = 0; n < reads.length; n++) {
            DUE.is(reads[n], price(reads[n], "o1b5zu"), want[n]);
        }
    }

    // 0 for each sign that is the same, 1 for a ?
    private static void likeEachSign() {
        for (int place = 0; place < 6; place++) {
            StringBuilder read = new StringBuilder("aceghj");
            DUE.is("the same", price(read.toString(), "aceghj"), 0);
            read.setCharAt(place, '?');
            DUE.is("a ? at " + place, price(read.toString(), "aceghj"), 1);
            read.setCharAt(place, 'x');
            DUE.is("another at " + place, price(read.toString(), "aceghj"), 9);
        }
    }

    // 1 for one that looks so (0 and o; 1, i and l; 8 and b; 5 and s; 2 and z; u and v)
    private static void likeLooks() {
        String[] groups = {"0o", "1il", "8b", "5s", "2z", "uv"};
        String all = "abcdefghijklmnopqrstuvwxyz0123456789";
        for (int a = 0; a < 36; a++) {
            for (int b = 0; b < 36; b++) {
                int want = a == b ? 0 : 9;
                for (String group : groups) {
                    boolean looks = group.indexOf(all.charAt(a)) >= 0 && group.indexOf(all.charAt(b)) >= 0;
                    want = a != b && looks ? 1 : want;
                }
                DUE.is(all.charAt(a) + " for " + all.charAt(b), price(all.charAt(a) + "ccccc", all.charAt(b) + "ccccc"), want);
            }
        }
    }

    // NONE if one is none
    private static void likeNone() {
        AirZone x = city();
        x.papers(0, 0, 0, 0, 0, 0);
        x.appeal(0, 0);
        x.read(0, 0, 0, A);
        DUE.is("a reading", x.like(2, 0), 0);
        int[] bad = {0, 1, 3, -1, 200, LEAST, GREATEST};
        for (int fact : bad) {
            DUE.is("reading " + fact, x.like(fact, 0), -1);
        }
        int[] none = {1, -1, 10, LEAST, GREATEST};
        for (int plate : none) {
            DUE.is("plate " + plate, x.like(2, plate), -1);
        }
    }
}
