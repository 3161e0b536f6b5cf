import java.util.Random;

/** Any arguments in any state: no call throws, and what can't be is answered as the document says. */
public final class EndureTest {
    private static final Due DUE = new Due("EndureTest");
    private static final int[] EDGES = {Integer.MIN_VALUE, Integer.MIN_VALUE + 1, -1000001, -101, -2, -1, 0, 1, 2, 6, 7,
        8, 9, 10, 11, 12, 20, 23, 24, 99, 100, 199, 200, 700, 900, 901, 1000, 1439, 1440, 100000, 1 << 30,
        Integer.MAX_VALUE - 1, Integer.MAX_VALUE};
    private static final int KINDS = 35;

    private final Random random;
    private final AirZone x = new AirZone();

    private EndureTest(int seed) {
        random = new Random(seed);
    }

    public static void main(String[] args) {
        for (int seed = 0; seed < 400; seed++) {
            EndureTest test = new EndureTest(seed);
            if (seed % 4 != 0) {
                test.fill();
            }
            for (int n = 0; n < 3000; n++) {
                test.call(test.random.nextInt(KINDS));
            }
        }
        alwaysWrong();
        DUE.end();
    }

    /** All that an object can hold, on a map whose places are all joined. */
    private void fill() {
        StringBuilder town = new StringBuilder();
        for (int n = 0; n < 24; n++) {
            town.append("way p").append(n % 12).append(" p").append((n * 5 + 7) % 12 == n % 12 ? (n + 1) % 12 : (n * 5 + 7) % 12)
                    .append(" ").append(1 + n % 7).append(";");
        }
        town.append("zone p0 p3 p5 p7;");
        for (int n = 0; n < 8; n++) {
            town.append("camera p").append(n).append(" from 0 to 1440;");
        }
        DUE.is("a full map", Due.map(x, town.toString()), 33);
        for (int n = 0; n < 6; n++) {
            DUE.is("orders", Due.orders(x, n, "charge 0 is 9;class 1 when day>2 and not (fuel=1 or norm<5);charge 1 is 99;"
                    + "free when class=2;grace 1;appeal when minute<600 or entries>3;"), n);
        }
        String[] looks = {"oo0000", "o00000", "000000", "0o0000", "00o000", "000o00", "0000o0", "00000o", "o0000o", "0oo000"};
        for (String look : looks) {
            x.plate(Due.signs(look), random.nextInt(10));
        }
        for (int n = 0; n < 200; n++) {
            x.read(random.nextInt(8), n / 7, random.nextInt(1440), Due.signs(looks[random.nextInt(10)]));
        }
        for (int n = 0; n < 120; n++) {
            x.air(n % 2, n / 2, n / 2 % 4, random.nextInt(1000));
        }
        for (int n = 0; n < 30; n++) {
            x.trip(random.nextInt(12), random.nextInt(12), 1 + random.nextInt(99), 1 + random.nextInt(99), random.nextInt(10));
        }
    }

    private int any() {
        int what = random.nextInt(3);
        return what == 0 ? random.nextInt(12) : what == 1 ? EDGES[random.nextInt(EDGES.length)] : random.nextInt();
    }

    private long anySigns() {
        return random.nextBoolean() ? random.nextLong() : Due.signs("o0000?") | (long) any() << 32;
    }

    private int anyText() {
        String signs = "way p0123456789;zone camera from to class charge is hours free when grace appeal or and not(fuel<>=+-)";
        int four = 0;
        for (int i = 0; i < 4; i++) {
            four = four << 8 | (random.nextInt(40) == 0 ? random.nextInt(256) : signs.charAt(random.nextInt(signs.length())));
        }
        return four;
    }

    private void call(int kind) {
        if (kind < 14) {
            tell(kind);
        } else {
            ask(kind);
        }
    }

    private void tell(int kind) {
        switch (kind) {
            case 0: x.feed(anyText(), anyText(), anyText(), anyText(), anyText()); break;
            case 1: x.feed(any(), any(), any(), any(), any()); break;
            case 2: x.end(any()); break;
            case 3: x.map(); break;
            case 4: x.orders(any()); break;
            case 5: x.plate(anySigns(), any()); break;
            case 6: x.papers(any(), any(), any(), any(), any(), any()); break;
            case 7: x.read(any(), any(), any(), anySigns()); break;
            case 8: x.appeal(any(), any()); break;
            case 9: x.untell(any()); break;
            case 10: x.later(any()); break;
            case 11: x.air(any(), any(), any(), any()); break;
            case 12: x.trip(any(), any(), any(), any(), any()); break;
            default: x.later(random.nextInt(3)); break;
        }
    }

    private void ask(int kind) {
        boolean yes = random.nextBoolean();
        switch (kind) {
            case 14: x.fault(any()); break;
            case 15: x.between(any(), any()); break;
            case 16: x.like(any(), any()); break;
            case 17: x.whose(any(), any()); break;
            case 18: x.doubt(any(), any()); break;
            case 19: x.isDouble(any(), any(), any()); break;
            case 20: x.inside(any(), any(), yes, any()); break;
            case 21: x.classOf(any(), any(), any()); break;
            case 22: x.entries(any(), any(), any()); break;
            case 23: x.charge(any(), any(), any()); break;
            case 24: x.account(any(), any(), any(), any()); break;
            case 25: x.back(any(), any(), any(), any(), any()); break;
            case 26: x.effect(any()); break;
            case 27: x.doubtOf(any(), any()); break;
            case 28: x.minutes(any(), any(), yes); break;
            case 29: x.via(any(), any(), yes, any()); break;
            case 30: x.load(any(), any(), yes); break;
            case 31: x.around(any()); break;
            case 32: x.view(any(), any()); break;
            case 33: x.seen(any(), any()); break;
            default: x.about(any()); break;
        }
    }

    /** On a full object: what is beyond each bound is refused, and nothing is done. */
    private static void alwaysWrong() {
        EndureTest test = new EndureTest(7);
        test.fill();
        AirZone x = test.x;
        int facts = x.about(5);
        for (int edge : EDGES) {
            if (edge >= 0 && edge < 100) {
                continue;
            }
            DUE.is("appeal", x.appeal(0, edge), -1);
            DUE.is("papers", x.papers(edge, 0, 0, 0, 0, 0), -1);
            DUE.is("read", x.read(0, edge, 0, Due.signs("aaaaaa")), -1);
            DUE.is("doubt", x.doubt(edge, 0), -1);
            DUE.is("charge", x.charge(edge, 0, 0), -1);
            DUE.is("account", x.account(0, 0, edge, 0), -1);
            DUE.is("account", x.account(0, edge, 99, 0), -1);
            DUE.is("back", x.back(edge, 0, 1, 0, 0), -1000000);
            DUE.is("effect", x.effect(edge), -1000000);
            DUE.is("doubtOf", x.doubtOf(0, edge), -1);
            DUE.is("minutes", x.minutes(edge, 0, false), -1);
            DUE.is("via", x.via(0, 0, false, edge), -1);
            DUE.is("load", x.load(edge, 0, false), -1);
            DUE.is("around", x.around(edge), -1);
            DUE.is("view", x.view(0, edge), -1);
            DUE.is("seen", x.seen(edge, 0), -1);
            DUE.is("about", x.about(edge), -1);
        }
        DUE.is("facts", x.about(5), facts);
    }
}
