import java.util.Random;

/** All promises at once: runs of calls drawn from fixed seeds, each answer against the Oracle's. */
public final class OracleTest {
    private static final Due DUE = new Due("OracleTest");
    private static final int RUNS = 400;
    private static final int CALLS = 500;

    private final Random random;
    private final int run;
    private final AirZone x = new AirZone();
    private final Oracle y = new Oracle();
    private final String[] stems;
    private final int lastDay;
    private boolean isRough;
    private int calls;

    private OracleTest(int run) {
        this.run = run;
        random = new Random(run);
        String pool = random.nextBoolean() ? "0o1il8b5s2zuv" : "0oab1l";
        String base = signsOf(pool);
        stems = new String[12];
        for (int i = 0; i < stems.length; i++) {
            stems[i] = random.nextInt(8) == 0 ? signsOf(pool) : changed(base, pool, random.nextInt(3));
        }
        lastDay = 1 + random.nextInt(8);
    }

    public static void main(String[] args) {
        int runs = args.length > 0 ? Integer.parseInt(args[0]) : RUNS;
        int first = args.length > 1 ? Integer.parseInt(args[1]) : 0;
        for (int run = first; run < first + runs; run++) {
            new OracleTest(run).play();
        }
        DUE.end();
    }

    private void play() {
        newMap();
        newOrders();
        for (int i = random.nextInt(6); i >= 0; i--) {
            tellPlate();
        }
        isRough = random.nextInt(3) == 0;
        while (calls < CALLS) {
            int what = random.nextInt(100);
            if (what < 2) {
                newOrders();
            } else if (what < 3 && random.nextInt(isRough ? 1 : 4) == 0) {
                newMap();
            } else if (what < 50) {
                tell();
            } else {
                ask();
            }
        }
    }

    private void same(String call, long got, long want) {
        calls++;
        DUE.is("run " + run + ": " + call, got, want);
    }

    private int upTo(int most) {
        return random.nextInt(most + 1);
    }

    /** Mostly from least to most, now and then one beyond. */
    private int about(int least, int most) {
        if (most < least || random.nextInt(40) == 0) {
            return random.nextBoolean() ? least - 1 : most + 1;
        }
        return least + upTo(most - least);
    }

    private int day() {
        return random.nextInt(8) == 0 ? about(0, 99) : about(0, lastDay);
    }

    private int known() {
        if (random.nextBoolean()) {
            return y.about(6);
        }
        return random.nextInt(30) == 0 ? -1 : upTo(y.about(6) + 1);
    }

    private String signsOf(String pool) {
        StringBuilder signs = new StringBuilder();
        for (int i = 0; i < 6; i++) {
            signs.append(pool.charAt(random.nextInt(pool.length())));
        }
        return signs.toString();
    }

    private String changed(String signs, String pool, int times) {
        StringBuilder other = new StringBuilder(signs);
        for (int i = 0; i < times; i++) {
            int at = random.nextInt(6);
            int look = "0o1i1l8b5s2zuv".indexOf(other.charAt(at));
            boolean turn = look >= 0 && random.nextInt(8) != 0;
            other.setCharAt(at, turn ? "o0i1l1b8s5z2vu".charAt(look) : pool.charAt(random.nextInt(pool.length())));
        }
        return other.toString();
    }

    // ---- texts

    private void tape(String text) {
        same("end(0)", x.end(0), y.end(0));
        String rest = text.length() > 900 ? text.substring(0, 900) : text;
        for (int at = 0; at < rest.length(); at += 20) {
            int[] five = new int[5];
            for (int i = 0; i < 20; i++) {
                int sign = at + i < rest.length() ? rest.charAt(at + i) : 0;
                five[i / 4] = five[i / 4] << 8 | sign;
            }
            same("feed", x.feed(five[0], five[1], five[2], five[3], five[4]), y.feed(five));
        }
        same("end", x.end(rest.length()), y.end(rest.length()));
    }

    /** Now and then something in a text is left out, put in, or put in place of another thing. */
    private String spoilt(String text) {
        if (text.isEmpty() || !isRough || random.nextBoolean()) {
            return text;
        }
        String[] others = {"", " ", ";", "(", ")", "p", "p3", "p12", "not ", "=", "0", "1441", "99", "x", "$", " way ",
            " zone ", "camera p1", " class ", "minute", "entries", "\n", "+", "-", "<", " and ", " or ", "grace 3;",
            "free when 1=1;", "hours 0 to 5;", "charge 1 is 1;"};
        int at = random.nextInt(text.length());
        int behind = Math.min(text.length(), at + random.nextInt(3));
        return text.substring(0, at) + others[random.nextInt(others.length)] + text.substring(behind);
    }

    private void faults() {
        same("fault(0)", x.fault(0), y.fault(0));
        same("fault(1)", x.fault(1), y.fault(1));
    }

    private void newMap() {
        StringBuilder text = new StringBuilder();
        int points = 4 + random.nextInt(9);
        int ways = isRough && random.nextInt(10) == 0 ? 25 : 3 + random.nextInt(16);
        for (int i = 0; i < ways; i++) {
            int a = random.nextInt(points);
            int b = isRough && random.nextInt(40) == 0 ? a : (a + 1 + random.nextInt(points - 1)) % points;
            int minutes = random.nextBoolean() ? 1 + random.nextInt(4) : 1 + random.nextInt(20);
            text.append("way p").append(a).append(" p").append(b).append(" ").append(minutes).append(";");
        }
        if (random.nextInt(8) != 0) {
            text.append("zone");
            for (int p = 0; p < points; p++) {
                text.append(random.nextInt(3) == 0 || p == 1 ? " p" + p : "");
            }
            text.append(";");
        }
        int cameras = isRough && random.nextInt(9) == 0 ? 9 : random.nextInt(Math.min(points, 8) + 1);
        for (int i = 0; i < cameras; i++) {
            int from = random.nextInt(4) == 0 ? random.nextInt(100) : 0;
            int to = random.nextInt(4) == 0 ? from + 1 + random.nextInt(300) : 1440;
            int point = isRough && random.nextInt(30) == 0 ? random.nextInt(points) : i % points;
            text.append("camera p").append(point).append(" from ").append(from).append(" to ").append(to).append(";");
        }
        tape(spoilt(text.toString()));
        same("map()", x.map(), y.map());
        y.forget();
        faults();
    }

    private void newOrders() {
        StringBuilder text = new StringBuilder();
        int lines = random.nextInt(isRough ? 9 : 5);
        if (random.nextInt(3) != 0) {
            text.append("charge 0 is ").append(upTo(40)).append(";charge 1 is ").append(upTo(20)).append(";charge 2 is 7;");
        }
        for (int i = 0; i < lines; i++) {
            text.append(orderLine());
        }
        tape(spoilt(text.toString()));
        int day = random.nextInt(3) == 0 ? day() : 0;
        same("orders", x.orders(day), y.orders(day));
        y.forget();
        faults();
    }

    private String orderLine() {
        switch (random.nextInt(12)) {
            case 0: return "hours " + upTo(isRough ? 700 : 20) + " to " + about(isRough ? 600 : 25, 1440) + ";";
            case 1: return "free when " + condition(1, 0) + ";";
            case 2: return "grace " + (random.nextBoolean() ? upTo(3) : about(0, 20)) + ";";
            case 3: return "appeal when " + condition(2, 0) + ";";
            case 4: return "charge " + about(2, 9) + " is " + about(0, 999) + ";";
            case 5: return "charge " + about(2, 9) + " is " + about(0, 50) + ";";
            default: return "class " + (random.nextBoolean() ? upTo(2) : about(0, 9)) + " when " + condition(0, 0) + ";";
        }
    }

    private String condition(int asks, int depth) {
        int more = random.nextInt(3);
        StringBuilder e = new StringBuilder(one(asks, depth));
        for (int i = 0; i < more; i++) {
            e.append(random.nextBoolean() ? " and " : " or ").append(one(asks, depth));
        }
        return e.toString();
    }

    private String one(int asks, int depth) {
        int what = random.nextInt(8);
        if (what == 0 && depth < 9) {
            return "not " + one(asks, depth + 1);
        }
        if (what == 1 && depth < 9) {
            return "(" + condition(asks, depth + 1) + ")";
        }
        return sum(asks) + "<>=".charAt(random.nextInt(3)) + sum(asks);
    }

    private String sum(int asks) {
        StringBuilder sum = new StringBuilder(unit(asks));
        while (random.nextInt(4) == 0) {
            sum.append(random.nextBoolean() ? "+" : "-").append(unit(asks));
        }
        return sum.toString();
    }

    private String unit(int asks) {
        String[] units = {"fuel", "norm", "kind", "home", "day", "class", "minute", "entries"};
        int most = asks == 0 ? 5 : asks == 1 ? 6 : 8;
        if (random.nextInt(100) == 0) {
            most = 8;
        }
        return random.nextBoolean() ? units[random.nextInt(most)] : "" + upTo(random.nextInt(4) == 0 ? 500 : 9);
    }

    // ---- what is told

    private void tell() {
        int what = random.nextInt(20);
        y.forget();
        if (what < 9) {
            tellReading();
        } else if (what < 11) {
            tellPlate();
        } else if (what < 13) {
            int[] p = {about(0, y.about(4) - 1), day(), about(0, 9), about(0, 9), about(0, 9), about(0, 1)};
            same("papers", x.papers(p[0], p[1], p[2], p[3], p[4], p[5]), y.papers(p[0], p[1], p[2], p[3], p[4], p[5]));
        } else if (what < 14) {
            int plate = about(0, y.about(4) - 1);
            int day = day();
            same("appeal", x.appeal(plate, day), y.appeal(plate, day));
        } else if (what < 15) {
            int fact = random.nextInt(3) == 0 ? upTo(y.about(5)) : about(0, y.about(5) - 1);
            same("untell(" + fact + ")", x.untell(fact) ? 1 : 0, y.untell(fact) ? 1 : 0);
        } else if (what < 16) {
            int by = random.nextInt(5) == 0 ? about(0, 1000) : upTo(3);
            same("later", x.later(by), y.later(by));
        } else if (what < 18) {
            int[] p = {upTo(isRough ? 12 : 5), upTo(isRough ? 12 : 5), about(1, 99), 1 + upTo(6), about(0, random.nextBoolean() ? 1 : 9)};
            same("trip", x.trip(p[0], p[1], p[2], p[3], p[4]), y.trip(p[0], p[1], p[2], p[3], p[4]));
        } else {
            tellAir();
        }
    }

    private void tellPlate() {
        long signs = Due.signs(stems[random.nextInt(stems.length)]) | (long) random.nextInt(2) << 50;
        int fleet = about(0, 2) * (random.nextInt(9) == 0 ? 5 : 1);
        same("plate", x.plate(signs, fleet), y.plate(signs, fleet));
    }

    private void tellReading() {
        int camera = about(0, y.about(2) - 1);
        int day = day();
        int minute = random.nextInt(3) == 0 ? about(0, 1440) : upTo(60);
        StringBuilder signs = new StringBuilder(stems[random.nextInt(stems.length)]);
        for (int i = random.nextInt(6) - 3; i > 0; i--) {
            signs.setCharAt(random.nextInt(6), '?');
        }
        if (random.nextInt(50) == 0) {
            signs.setCharAt(random.nextInt(6), '!');
        }
        long six = Due.signs(signs.toString());
        same("read", x.read(camera, day, minute, six), y.read(camera, day, minute, six));
    }

    private void tellAir() {
        int day = about(0, 30);
        int wind = random.nextInt(3) == 0 ? about(0, 3) : 1;
        int value = random.nextBoolean() ? upTo(9) : about(0, 999);
        int site = about(0, 1);
        same("air", x.air(site, day, wind, value), y.air(site, day, wind, value));
        if (site >= 0 && site <= 1) {
            same("air", x.air(1 - site, day, wind, value / 2), y.air(1 - site, day, wind, value / 2));
        }
    }

    // ---- what is asked

    private void ask() {
        int plate = about(0, Math.max(0, y.about(4) - 1));
        int fact = about(0, Math.max(0, y.about(5) - 1));
        int day = day();
        int k = known();
        boolean yes = random.nextBoolean();
        switch (random.nextInt(12)) {
            case 0:
                same("like", x.like(fact, plate), y.like(fact, plate));
                break;
            case 1:
                same("whose", x.whose(fact, k), y.whose(fact, k));
                break;
            case 2:
                same("doubt", x.doubt(day, k), y.doubt(day, k));
                break;
            case 3:
                same("isDouble", x.isDouble(plate, day, k), y.isDouble(plate, day, k));
                break;
            case 4:
                same("inside", x.inside(plate, day, yes, k), y.inside(plate, day, yes, k));
                break;
            case 5:
                same("classOf", x.classOf(plate, day, k), y.classOf(plate, day, k));
                break;
            case 6:
                same("entries", x.entries(plate, day, k), y.entries(plate, day, k));
                break;
            case 7:
                same("charge", x.charge(plate, day, k), y.charge(plate, day, k));
                break;
            case 8:
                askAccount(day, k);
                break;
            case 9:
                askAir();
                break;
            default:
                askTrips(day, yes);
                break;
        }
    }

    private void askAccount(int day, int k) {
        int fleet = about(0, 2);
        int to = day + random.nextInt(4) - 1;
        int then = known();
        same("account", x.account(fleet, day, to, k), y.account(fleet, day, to, k));
        same("back", x.back(fleet, day, to, k, then), y.back(fleet, day, to, k, then));
    }

    private void askAir() {
        int day = random.nextInt(10) == 0 ? about(0, 99) : about(0, 31);
        int what = about(0, 1);
        same("effect", x.effect(day), y.effect(day));
        same("doubtOf", x.doubtOf(day, what), y.doubtOf(day, what));
    }

    private void askTrips(int day, boolean zone) {
        int trip = about(0, Math.max(0, y.about(7) - 1));
        int way = about(0, Math.max(0, y.about(0) - 1));
        int a = about(0, 11);
        int b = about(0, 11);
        switch (random.nextInt(7)) {
            case 0:
                same("minutes", x.minutes(trip, day, zone), y.minutes(trip, day, zone));
                break;
            case 1:
                for (int n = -1; n < 5; n++) {
                    same("via " + n, x.via(trip, day, zone, n), y.via(trip, day, zone, n));
                }
                break;
            case 2:
                same("load", x.load(way, day, zone), y.load(way, day, zone));
                break;
            case 3:
                same("around", x.around(day), y.around(day));
                break;
            case 4:
                same("view", x.view(day, a % 5), y.view(day, a % 5));
                same("seen", x.seen(day, a % 5), y.seen(day, a % 5));
                break;
            case 5:
                same("between", x.between(a, b), y.between(a, b));
                break;
            default:
                same("about", x.about(a), y.about(a));
                break;
        }
    }
}
