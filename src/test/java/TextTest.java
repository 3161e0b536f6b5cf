/** Promises 1, 2, 3, 6 and 34: the TAPE, its TOKENS and their FAULTS, what a new object has. */
public final class TextTest {
    private static final Due DUE = new Due("TextTest");

    public static void main(String[] args) {
        newObject();
        feeding();
        cutting();
        tokens();
        latestFault();
        counts();
        DUE.end();
    }

    private static void newObject() {
        AirZone x = new AirZone();
        for (int what = 0; what <= 9; what++) {
            DUE.is("about(" + what + ") of a new one", x.about(what), 0);
        }
        DUE.is("between(3, 3) of a new one", x.between(3, 3), 0);
        DUE.is("between(3, 4) of a new one", x.between(3, 4), -1);
        DUE.is("classOf without plates", x.classOf(0, 0, 0), -1);
        DUE.is("view of a new one", x.view(0, 3), 0);
        DUE.is("around of a new one", x.around(0), 0);
        DUE.is("doubt of a new one", x.doubt(99, 5), 0);
        DUE.is("fault(0) of a new one", x.fault(0), 0);
        DUE.is("fault(1) of a new one", x.fault(1), -1);
        DUE.is("NONE", AirZone.NONE, -1);
    }

    private static void feeding() {
        AirZone x = new AirZone();
        for (int n = 1; n <= 45; n++) {
            DUE.is("feed " + n, x.feed(0x20202020, 0x0a0a0a0a, 0x20202020, 0x20202020, 0x20202020), 20 * n);
        }
        DUE.is("a 46th feed", x.feed(0, 0, 0, 0, 0), -1);
        DUE.is("bytes after it", x.about(9), 900);
        DUE.is("orders of 900 bytes", x.orders(0), -2);
        DUE.is("the tape stays", x.about(9), 900);
        DUE.is("end(881)", x.end(881), 881);
        DUE.is("feed beyond 900 by one", x.feed(0, 0, 0, 0, 0), -1);
        DUE.is("end(880)", x.end(880), 880);
        DUE.is("feed up to 900", x.feed(0x20202020, 0x20202020, 0x20202020, 0x20202020, 0x20202020), 900);
        DUE.is("a map of blanks", x.map(), 0);
        DUE.is("the tape is empty then", x.about(9), 0);
        // the highest byte of each is the first: "way " "p1 p" "2 9 " "    " "   ;"
        x.feed(0x77617920, 0x70312070, 0x32203920, 0x20202020, 0x2020203b);
        DUE.is("one line fed as bytes", x.map(), 1);
        DUE.is("its minutes", x.between(1, 2), 9);
        x.feed(0x80808080, 0, 0, 0, 0);
        DUE.is("a byte above 127", x.map(), -1);
        DUE.is("is no token", x.fault(0), 1);
    }

    private static void cutting() {
        AirZone x = new AirZone();
        DUE.is("end(0) of an empty tape", x.end(0), 0);
        DUE.is("end(1) of an empty tape", x.end(1), -1);
        x.feed(0, 0, 0, 0, 0);
        DUE.is("end(-1)", x.end(-1), -1);
        DUE.is("end(21)", x.end(21), -1);
        DUE.is("end of the least int", x.end(Integer.MIN_VALUE), -1);
        DUE.is("bytes stay", x.about(9), 20);
        DUE.is("end(20)", x.end(20), 20);
        DUE.is("end(3)", x.end(3), 3);
        DUE.is("bytes are cut", x.about(9), 3);
        DUE.is("end(4)", x.end(4), -1);
    }

    /** A map with a FAULT: which, and where. */
    static void faultOf(Due due, String text, int fault, int place) {
        AirZone x = new AirZone();
        due.is("map '" + text + "'", Due.map(x, text), -1);
        due.is("fault of '" + text + "'", x.fault(0), fault);
        due.is("its place in '" + text + "'", x.fault(1), place);
    }

    private static void tokens() {
        faultOf(DUE, "$", 1, 0);
        faultOf(DUE, " \n\t", 1, 2);
        faultOf(DUE, "way\r", 1, 3);
        faultOf(DUE, "Way", 1, 0);
        faultOf(DUE, "way p0 p1 5?", 1, 11);
        faultOf(DUE, "way p0 p1 5,", 1, 11);
        // eight letters are a word, nine are none
        faultOf(DUE, "waywaywa", 2, 0);
        faultOf(DUE, "waywayway", 1, 0);
        faultOf(DUE, "   waywayway p0", 1, 3);
        // four digits are an N, five are none, nor with a letter directly behind
        faultOf(DUE, "way p0 p1 9999;", 4, 10);
        faultOf(DUE, "way p0 p1 10000;", 1, 10);
        faultOf(DUE, "way p0 p1 00005;", 1, 10);
        faultOf(DUE, "way p0 p1 5way", 1, 10);
        faultOf(DUE, "5", 2, 0);
        faultOf(DUE, "5a", 1, 0);
        // what is no P is a word and an N
        faultOf(DUE, "way p12 p1 5;", 2, 4);
        faultOf(DUE, "way p011 p1 5;", 2, 4);
        faultOf(DUE, "way p0p1 5;", 2, 4);
        faultOf(DUE, "way p0x", 2, 4);
        faultOf(DUE, "way p 0", 2, 4);
        faultOf(DUE, "way pp0", 2, 4);
        faultOf(DUE, "wayp0 p1 5;", 2, 0);
        // all signs are tokens, though none but ; has a place in a map
        for (String sign : new String[] {"(", ")", "<", ">", "=", "+", "-", ";"}) {
            faultOf(DUE, "way p0 p1 5 " + sign.replace(";", "+"), 2, 12);
            faultOf(DUE, sign, 2, 0);
        }
        // the end is the text's length, behind blanks too
        faultOf(DUE, "way", 2, 3);
        faultOf(DUE, "way  ", 2, 5);
        faultOf(DUE, "way p0 p1 5", 2, 11);
        // the first by its place
        faultOf(DUE, "way p0 p0 $", 5, 7);
        faultOf(DUE, "way p0 $ p0", 1, 7);
        faultOf(DUE, "way p0 p1 0 $", 4, 10);
        // nothing is seen of what was cut off behind the end
        AirZone cut = new AirZone();
        Due.tape(cut, "way p0 p1 5x;");
        cut.end(11);
        DUE.is("a text cut within", cut.map(), -1);
        DUE.is("an N at the end", cut.fault(0), 2);
        DUE.is("the end", cut.fault(1), 11);
        // as many tokens as bytes
        StringBuilder many = new StringBuilder("way p0 p1 5;");
        while (many.length() < 900) {
            many.append(';');
        }
        faultOf(DUE, many.toString(), 2, 12);
        AirZone x = new AirZone();
        DUE.is("blanks part them or not", Due.map(x, "way p0 p01\n0005;way\np11\np00 99;zone p01 p2;camera p9 from0 to1440;"), 4);
        DUE.is("p01 is p1", x.between(0, 1), 5);
        DUE.is("p00 is p0", x.between(1, 11), 104);
    }

    private static void latestFault() {
        AirZone x = new AirZone();
        Due.map(x, "way p0 p1 5; road");
        DUE.is("fault(0) of map", x.fault(0), 2);
        DUE.is("fault(1) of map", x.fault(1), 13);
        DUE.is("fault(2)", x.fault(2), -1);
        DUE.is("fault(-1)", x.fault(-1), -1);
        DUE.is("orders that are refused", x.orders(100), -2);
        DUE.is("leave the fault", x.fault(0), 2);
        DUE.is("leave its place", x.fault(1), 13);
        DUE.is("orders without a fault", x.orders(0), 0);
        DUE.is("clear the fault", x.fault(0), 0);
        DUE.is("clear its place", x.fault(1), -1);
        Due.orders(x, 0, "grace 21;");
        DUE.is("fault(0) of orders", x.fault(0), 4);
        DUE.is("fault(1) of orders", x.fault(1), 6);
        DUE.is("a map without a fault", Due.map(x, "zone p0;"), 1);
        DUE.is("clears it, too", x.fault(0), 0);
        DUE.is("and its place", x.fault(1), -1);
    }

    private static void counts() {
        AirZone x = new AirZone();
        Due.map(x, "way p0 p1 5;way p0 p1 5;zone p1 p3 p5;camera p1 from 0 to 9;camera p2 from 3 to 4;");
        Due.orders(x, 5, "");
        x.plate(Due.signs("aaaaaa"), 0);
        x.plate(Due.signs("bbbbbb"), 0);
        x.papers(1, 0, 0, 0, 0, 0);
        x.appeal(1, 0);
        x.read(0, 0, 0, Due.signs("aaaaaa"));
        x.untell(1);
        x.later(7);
        x.trip(0, 1, 1, 1, 0);
        x.air(0, 0, 0, 0);
        x.feed(0, 0, 0, 0, 0);
        int[] want = {2, 3, 2, 1, 2, 3, 7, 1, 1, 20};
        for (int what = 0; what < want.length; what++) {
            DUE.is("about(" + what + ")", x.about(what), want[what]);
        }
        DUE.is("about(10)", x.about(10), -1);
        DUE.is("about(-1)", x.about(-1), -1);
        DUE.is("about of the greatest int", x.about(Integer.MAX_VALUE), -1);
    }
}
