/** Promises 8 to 14: PLATES, FACTS told and taken back, TIME, LIKE. */
public final class FactsTest {
    private static final Due DUE = new Due("FactsTest");
    private static final int LEAST = Integer.MIN_VALUE;
    private static final int GREATEST = Integer.MAX_VALUE;

    public static void main(String[] args) {
        plates();
        papers();
        papersInForce();
        readings();
        appeals();
        factsAreFull();
        untelling();
        time();
        likeness();
        DUE.end();
    }

    private static AirZone city() {
        AirZone x = new AirZone();
        Due.map(x, "way p0 p1 5;zone p1;camera p0 from 0 to 1440;camera p1 from 60 to 61;");
        return x;
    }

    private static void plates() {
        AirZone x = new AirZone();
        DUE.is("a plate", x.plate(Due.signs("az09zz"), 0), 0);
        DUE.is("such a one", x.plate(Due.signs("az09zz"), 1), -1);
        DUE.is("one by higher bytes alone", x.plate(Due.signs("az09zz") | 1L << 48, 1), -1);
        DUE.is("a fleet 10", x.plate(Due.signs("az09za"), 10), -1);
        DUE.is("a fleet -1", x.plate(Due.signs("az09za"), -1), -1);
        DUE.is("a ?", x.plate(Due.signs("az09z?"), 1), -1);
        DUE.is("a great letter", x.plate(Due.signs("Az09zz"), 1), -1);
        DUE.is("signs beside a .. z", x.plate(Due.signs("a`0000"), 1), -1);
        DUE.is("signs beside a .. z", x.plate(Due.signs("a{0000"), 1), -1);
        DUE.is("signs beside 0 .. 9", x.plate(Due.signs("a/0000"), 1), -1);
        DUE.is("signs beside 0 .. 9", x.plate(Due.signs("a:0000"), 1), -1);
        DUE.is("five signs", x.plate(Due.signs("az09z"), 1), -1);
        DUE.is("no signs", x.plate(0, 1), -1);
        DUE.is("no signs", x.plate(-1L, 1), -1);
        DUE.is("higher bytes are no signs", x.plate(Due.signs("zzaaaaaa"), 9), 1);
        DUE.is("so this is such a one", x.plate(Due.signs("aaaaaa"), 9), -1);
        for (int n = 2; n < 10; n++) {
            DUE.is("plate " + n, x.plate(Due.signs("bbbbb" + n), n), n);
        }
        DUE.is("an eleventh", x.plate(Due.signs("cccccc"), 0), -1);
        DUE.is("ten there are", x.about(4), 10);
    }

    private static void papers() {
        AirZone x = new AirZone();
        DUE.is("without plates", x.papers(0, 0, 0, 0, 0, 0), -1);
        x.plate(Due.signs("aaaaaa"), 0);
        int[][] bad = {{1, 0, 0, 0, 0, 0}, {-1, 0, 0, 0, 0, 0}, {0, -1, 0, 0, 0, 0}, {0, 100, 0, 0, 0, 0},
            {0, 0, -1, 0, 0, 0}, {0, 0, 10, 0, 0, 0}, {0, 0, 0, -1, 0, 0}, {0, 0, 0, 10, 0, 0}, {0, 0, 0, 0, -1, 0},
            {0, 0, 0, 0, 10, 0}, {0, 0, 0, 0, 0, -1}, {0, 0, 0, 0, 0, 2}, {0, LEAST, 0, 0, 0, GREATEST}};
        for (int[] b : bad) {
            DUE.is("papers that can't be", x.papers(b[0], b[1], b[2], b[3], b[4], b[5]), -1);
        }
        DUE.is("nothing was done", x.about(5), 0);
        DUE.is("the least", x.papers(0, 0, 0, 0, 0, 0), 0);
        DUE.is("the greatest", x.papers(0, 99, 9, 9, 9, 1), 1);
        DUE.is("two facts", x.about(5), 2);
    }

    private static void papersInForce() {
        AirZone x = new AirZone();
        x.plate(Due.signs("aaaaaa"), 0);
        x.plate(Due.signs("bbbbbb"), 0);
        Due.orders(x, 0, "class 1 when fuel=1;class 2 when fuel=2;class 3 when fuel=3;class 9 when fuel=0;");
        x.papers(0, 10, 1, 0, 0, 0);
        x.papers(0, 20, 2, 0, 0, 0);
        x.papers(0, 10, 3, 0, 0, 0);
        DUE.is("ahead of all papers", x.classOf(0, 9, 0), 9);
        DUE.is("of like days the last told", x.classOf(0, 10, 0), 3);
        DUE.is("the greatest day not behind", x.classOf(0, 19, 0), 3);
        DUE.is("the greatest day not behind", x.classOf(0, 20, 0), 2);
        DUE.is("for ever", x.classOf(0, 99, 0), 2);
        DUE.is("another plate", x.classOf(1, 99, 0), 9);
        DUE.is("as known before", x.classOf(0, 99, -1), 9);
        x.later(3);
        x.untell(2);
        DUE.is("untold now", x.classOf(0, 10, 3), 1);
        DUE.is("as known before", x.classOf(0, 10, 2), 3);
        DUE.is("as known for ever", x.classOf(0, 10, GREATEST), 1);
    }

    private static void readings() {
        AirZone x = city();
        long signs = Due.signs("a?0???");
        DUE.is("a camera that does not work yet", x.read(1, 0, 59, signs), -1);
        DUE.is("one that works", x.read(1, 0, 60, signs), 0);
        DUE.is("one that does not work any more", x.read(1, 0, 61, signs), -1);
        DUE.is("minute 0", x.read(0, 99, 0, signs), 1);
        DUE.is("minute 1439", x.read(0, 99, 1439, signs), 2);
        DUE.is("minute 1440", x.read(0, 99, 1440, signs), -1);
        DUE.is("minute -1", x.read(0, 99, -1, signs), -1);
        DUE.is("no camera 2", x.read(2, 0, 60, signs), -1);
        DUE.is("no camera -1", x.read(-1, 0, 60, signs), -1);
        DUE.is("no day -1", x.read(0, -1, 60, signs), -1);
        DUE.is("no day 100", x.read(0, 100, 60, signs), -1);
        DUE.is("no sign", x.read(0, 0, 60, Due.signs("a?0?!?")), -1);
        DUE.is("no signs", x.read(0, 0, 60, 0L), -1);
        DUE.is("all that is least", x.read(LEAST, LEAST, LEAST, Long.MIN_VALUE), -1);
        DUE.is("three facts", x.about(5), 3);
        for (int n = 1; n < 7; n++) {
            DUE.is("reading " + n, x.read(0, 0, n, signs | 5L << 60), 2 + n);
        }
        DUE.is("an eighth", x.read(0, 0, 9, signs), -1);
        x.untell(8);
        DUE.is("untold ones count, too", x.read(0, 0, 9, signs), -1);
        DUE.is("another day", x.read(0, 1, 9, signs), 9);
    }

    private static void appeals() {
        AirZone x = new AirZone();
        DUE.is("without plates", x.appeal(0, 0), -1);
        x.plate(Due.signs("aaaaaa"), 0);
        DUE.is("no plate 1", x.appeal(1, 0), -1);
        DUE.is("no plate -1", x.appeal(-1, 0), -1);
        DUE.is("no day 100", x.appeal(0, 100), -1);
        DUE.is("no day -1", x.appeal(0, -1), -1);
        DUE.is("an appeal", x.appeal(0, 99), 0);
        DUE.is("another one like it", x.appeal(0, 99), 1);
    }

    private static void factsAreFull() {
        AirZone x = city();
        x.plate(Due.signs("aaaaaa"), 0);
        for (int n = 0; n < 198; n++) {
            x.appeal(0, 0);
        }
        DUE.is("papers", x.papers(0, 0, 0, 0, 0, 0), 198);
        DUE.is("a reading", x.read(0, 0, 0, Due.signs("aaaaaa")), 199);
        DUE.is("a 201st appeal", x.appeal(0, 0), -1);
        DUE.is("201st papers", x.papers(0, 0, 0, 0, 0, 0), -1);
        DUE.is("a 201st reading", x.read(0, 0, 0, Due.signs("aaaaaa")), -1);
        x.untell(0);
        DUE.is("untold ones count, too", x.appeal(0, 0), -1);
        DUE.is("200 there are", x.about(5), 200);
        DUE.is("the last one is whole", x.whose(199, 0), 0);
    }

    private static void untelling() {
        AirZone x = city();
        DUE.is("none", x.untell(0), false);
        x.plate(Due.signs("aaaaaa"), 0);
        x.read(0, 0, 0, Due.signs("aaaaaa"));
        DUE.is("none 1", x.untell(1), false);
        DUE.is("none -1", x.untell(-1), false);
        DUE.is("none far off", x.untell(GREATEST), false);
        DUE.is("it counts", x.whose(0, 0), 0);
        x.later(10);
        DUE.is("untold", x.untell(0), true);
        DUE.is("is so already", x.untell(0), false);
        DUE.is("as known before", x.whose(0, 9), 0);
        DUE.is("as known then", x.whose(0, 10), -1);
        DUE.is("as known for ever", x.whose(0, GREATEST), -1);
        DUE.is("as known never", x.whose(0, LEAST), -1);
        DUE.is("it is a reading still", x.like(0, 0), 0);
        x.read(0, 0, 5, Due.signs("aaaaaa"));
        DUE.is("told later", x.whose(1, 9), -1);
        DUE.is("told then", x.whose(1, 10), 0);
        DUE.is("for ever", x.whose(1, GREATEST), 0);
        DUE.is("untold at the same time", x.untell(1), true);
        DUE.is("never counts", x.whose(1, 10), -1);
        x.read(0, 0, 7, Due.signs("aaaaaa"));
        DUE.is("told now", x.whose(2, 10), 0);
        DUE.is("untold now", x.untell(2), true);
        DUE.is("known at once", x.whose(2, 10), -1);
    }

    private static void time() {
        AirZone x = new AirZone();
        DUE.is("later(0)", x.later(0), 0);
        DUE.is("later(-1)", x.later(-1), -1);
        DUE.is("later(1001)", x.later(1001), -1);
        DUE.is("later of the greatest", x.later(GREATEST), -1);
        DUE.is("nothing was done", x.about(6), 0);
        for (int n = 1; n <= 99; n++) {
            DUE.is("later(1000)", x.later(1000), 1000 * n);
        }
        DUE.is("later(999)", x.later(999), 99999);
        DUE.is("above 100,000", x.later(2), -1);
        DUE.is("nothing was done", x.about(6), 99999);
        DUE.is("100,000", x.later(1), 100000);
        DUE.is("above 100,000", x.later(1), -1);
        DUE.is("later(0)", x.later(0), 100000);
    }

    private static int price(String read, String plate) {
        AirZone x = city();
        x.plate(Due.signs(plate), 0);
        x.read(0, 0, 0, Due.signs(read));
        return x.like(0, 0);
    }

    private static void likeness() {
        DUE.is("the same", price("abcdef", "abcdef"), 0);
        DUE.is("one ?", price("abcde?", "abcdef"), 1);
        DUE.is("two ?", price("?bcde?", "abcdef"), 2);
        DUE.is("three ?", price("??cde?", "abcdef"), 9);
        DUE.is("another sign", price("abcdeg", "abcdef"), 9);
        DUE.is("a ? and one that looks so", price("?0cdef", "aocdef"), 2);
        String[] looks = {"0o", "1i", "1l", "il", "8b", "5s", "2z", "uv"};
        for (String look : looks) {
            String one = look.substring(0, 1);
            String other = look.substring(1);
            DUE.is(look, price(one + "ccccc", other + "ccccc"), 1);
            DUE.is(look + " turned", price("ccccc" + other, "ccccc" + one), 1);
            DUE.is("two of " + look, price(one + other + "cccc", other + one + "cccc"), 2);
            DUE.is("three of " + look, price(one + one + one + "ccc", other + other + other + "ccc"), 9);
        }
        for (String no : new String[] {"0q", "1j", "8d", "5z", "2s", "uw", "vy", "b6"}) {
            DUE.is(no, price(no.charAt(0) + "ccccc", no.charAt(1) + "ccccc"), 9);
        }
        AirZone x = city();
        x.plate(Due.signs("aaaaaa"), 0);
        x.papers(0, 0, 0, 0, 0, 0);
        x.read(0, 0, 0, Due.signs("aaaaaa"));
        DUE.is("papers are no reading", x.like(0, 0), -1);
        DUE.is("a reading", x.like(1, 0), 0);
        DUE.is("none 2", x.like(2, 0), -1);
        DUE.is("none -1", x.like(-1, 0), -1);
        DUE.is("no plate 1", x.like(1, 1), -1);
        DUE.is("no plate -1", x.like(1, -1), -1);
    }
}
