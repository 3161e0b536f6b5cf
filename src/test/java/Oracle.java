import java.util.ArrayList;
import java.util.Arrays;
import java.util.HashMap;
import java.util.HashSet;
import java.util.List;
import java.util.Map;
import java.util.Set;
import java.util.TreeMap;

/** The document a second time, in the plainest way: texts by regions, choices and ways by trying all. */
final class Oracle {
    static final int NONE = -1;

    /** What stands at a place of a text. */
    private record Token(String kind, String word, int value, int place) { }

    private static final class Fault extends RuntimeException {
        private static final long serialVersionUID = 1L;
        final int what;
        final int place;

        Fault(int what, int place) {
            super(null, null, false, false);
            this.what = what;
            this.place = place;
        }
    }

    private interface Cond {
        boolean holds(Map<String, Integer> asked);
    }

    private interface Sum {
        int of(Map<String, Integer> asked);
    }

    private record Way(int a, int b, int minutes) { }

    private record Camera(int point, int from, int to) { }

    private record ClassLine(int number, Cond when) { }

    private static final class Orders {
        int day;
        final List<ClassLine> classes = new ArrayList<>();
        final Map<Integer, Integer> charges = new HashMap<>();
        int[] hours;
        Cond free;
        Integer grace;
        Cond appeal;
    }

    private static final class Fact {
        char kind;
        int told;
        Integer untold;
        int plate;
        int day;
        int[] papers;
        Camera camera;
        int minute;
        String signs;

        boolean counts(int k) {
            return told <= k && !(untold != null && untold <= k);
        }
    }

    private record Trip(int from, int to, int cars, int value, int number) { }

    private record Plate(String signs, int fleet) { }

    private record AirValue(int wind, int value) { }

    private String tape = "";
    private List<Way> ways = new ArrayList<>();
    private Set<Integer> zone = new HashSet<>();
    private List<Camera> cameras = new ArrayList<>();
    private final List<Orders> orders = new ArrayList<>();
    private final List<Plate> plates = new ArrayList<>();
    private final List<Fact> facts = new ArrayList<>();
    private final List<Trip> trips = new ArrayList<>();
    private final List<Map<Integer, AirValue>> airs = List.of(new TreeMap<>(), new TreeMap<>());
    private int time;
    private int fault;
    private int faultPlace = NONE;

    // ---- the tape and its tokens

    int feed(int... five) {
        if (tape.length() + 20 > 900) {
            return NONE;
        }
        StringBuilder more = new StringBuilder(tape);
        for (int four : five) {
            for (int i = 3; i >= 0; i--) {
                more.append((char) (four >>> 8 * i & 255));
            }
        }
        tape = more.toString();
        return tape.length();
    }

    int end(int n) {
        if (n < 0 || n > tape.length()) {
            return NONE;
        }
        tape = tape.substring(0, n);
        return n;
    }

    private static boolean letter(String text, int at) {
        return at < text.length() && text.charAt(at) >= 'a' && text.charAt(at) <= 'z';
    }

    private static boolean digit(String text, int at) {
        return at < text.length() && text.charAt(at) >= '0' && text.charAt(at) <= '9';
    }

    private static Token tokenAt(String text, int from) {
        int at = from;
        while (at < text.length() && (text.charAt(at) == ' ' || text.charAt(at) == '\n')) {
            at++;
        }
        if (at == text.length()) {
            return new Token("end", "", 0, at);
        }
        for (int point = 0; point < 12; point++) {
            for (String form : new String[] {"p" + point, "p0" + point}) {
                int behind = at + form.length();
                if (form.length() <= 3 && text.startsWith(form, at) && !letter(text, behind) && !digit(text, behind)) {
                    return new Token("P", form, point, at);
                }
            }
        }
        int behind = at;
        if (letter(text, at)) {
            while (letter(text, behind)) {
                behind++;
            }
            return new Token(behind - at > 8 ? "bad" : "word", text.substring(at, behind), 0, at);
        }
        if (digit(text, at)) {
            while (digit(text, behind)) {
                behind++;
            }
            String digits = text.substring(at, behind);
            boolean bad = digits.length() > 4 || letter(text, behind);
            return new Token(bad ? "bad" : "N", digits, bad ? 0 : Integer.parseInt(digits), at);
        }
        String sign = text.substring(at, at + 1);
        return new Token(";()<>=+-".contains(sign) ? sign : "bad", sign, 0, at);
    }

    /** A reader of one text: what comes next, and no more than that is looked at. */
    private static final class Reader {
        final String text;
        int at;

        Reader(String text) {
            this.text = text;
        }

        Token peek() {
            Token token = tokenAt(text, at);
            if (token.kind.equals("bad")) {
                throw new Fault(1, token.place);
            }
            return token;
        }

        Token next() {
            Token token = peek();
            at = token.place + token.word.length();
            return token;
        }

        boolean isNext(String what) {
            Token token = peek();
            return token.kind.equals(what) || token.kind.equals("word") && token.word.equals(what);
        }

        Token need(String what) {
            if (!isNext(what)) {
                throw new Fault(2, peek().place);
            }
            return next();
        }

        int number(int least, int most) {
            Token token = need("N");
            if (token.value < least || token.value > most) {
                throw new Fault(4, token.place);
            }
            return token.value;
        }
    }

    private void noFault() {
        fault = 0;
        faultPlace = NONE;
    }

    private int noted(Fault f) {
        fault = f.what;
        faultPlace = f.place;
        return NONE;
    }

    int fault(int what) {
        return what == 0 ? fault : what == 1 ? faultPlace : NONE;
    }

    // ---- the map

    int map() {
        Reader in = new Reader(tape);
        tape = "";
        List<Way> newWays = new ArrayList<>();
        Set<Integer> newZone = new HashSet<>();
        List<Camera> newCameras = new ArrayList<>();
        int lines = 0;
        noFault();
        try {
            while (!in.isNext("end")) {
                Token first = in.next();
                String word = first.kind.equals("word") ? first.word : "";
                boolean tooMany = word.equals("way") && newWays.size() == 24 || word.equals("zone") && !newZone.isEmpty()
                        || word.equals("camera") && newCameras.size() == 8;
                if (tooMany) {
                    throw new Fault(2, first.place);
                }
                switch (word) {
                    case "way" -> newWays.add(way(in));
                    case "zone" -> zoneLine(in, newZone);
                    case "camera" -> newCameras.add(camera(in, newCameras));
                    default -> throw new Fault(2, first.place);
                }
                in.need(";");
                lines++;
            }
        } catch (Fault f) {
            return noted(f);
        }
        ways = newWays;
        zone = newZone;
        cameras = newCameras;
        trips.clear();
        for (Fact fact : facts) {
            if (fact.kind == 'r') {
                fact.kind = 'x';
            }
        }
        return lines;
    }

    private static Way way(Reader in) {
        int a = in.need("P").value;
        Token b = in.need("P");
        if (b.value == a) {
            throw new Fault(5, b.place);
        }
        return new Way(a, b.value, in.number(1, 99));
    }

    private static void zoneLine(Reader in, Set<Integer> zone) {
        do {
            Token point = in.need("P");
            if (!zone.add(point.value)) {
                throw new Fault(5, point.place);
            }
        } while (!in.isNext(";"));
    }

    private static Camera camera(Reader in, List<Camera> others) {
        Token point = in.need("P");
        for (Camera other : others) {
            if (other.point == point.value) {
                throw new Fault(5, point.place);
            }
        }
        in.need("from");
        int from = in.number(0, 1440);
        in.need("to");
        return new Camera(point.value, from, in.number(from + 1, 1440));
    }

    /** The least minutes, by ever more ways; null if none joins them. */
    private Integer way(int a, int b) {
        Integer[] best = new Integer[12];
        best[a] = 0;
        for (int round = 0; round < 12; round++) {
            for (Way w : ways) {
                relax(best, w.a, w.b, w.minutes);
                relax(best, w.b, w.a, w.minutes);
            }
        }
        return best[b];
    }

    private static void relax(Integer[] best, int from, int to, int minutes) {
        if (best[from] != null && (best[to] == null || best[from] + minutes < best[to])) {
            best[to] = best[from] + minutes;
        }
    }

    int between(int a, int b) {
        if (a < 0 || a > 11 || b < 0 || b > 11) {
            return NONE;
        }
        Integer minutes = way(a, b);
        return minutes == null ? NONE : minutes;
    }

    // ---- orders

    int orders(int day) {
        if (tape.length() > 700 || day < 0 || day > 99 || orders.size() == 6) {
            return -2;
        }
        Reader in = new Reader(tape);
        tape = "";
        noFault();
        Orders next = new Orders();
        next.day = day;
        try {
            int[] units = {0};
            while (!in.isNext("end")) {
                line(in, next, units);
                in.need(";");
            }
        } catch (Fault f) {
            return noted(f);
        }
        orders.add(next);
        return orders.size() - 1;
    }

    private static void line(Reader in, Orders o, int[] units) {
        Token first = in.next();
        String word = first.kind.equals("word") ? first.word : "";
        boolean twice = word.equals("class") && o.classes.size() == 6 || word.equals("hours") && o.hours != null
                || word.equals("free") && o.free != null || word.equals("grace") && o.grace != null
                || word.equals("appeal") && o.appeal != null;
        if (twice) {
            throw new Fault(2, first.place);
        }
        switch (word) {
            case "class" -> {
                int number = in.number(0, 9);
                in.need("when");
                o.classes.add(new ClassLine(number, either(in, word, units, 0)));
            }
            case "charge" -> {
                Token told = in.peek();
                int number = in.number(0, 9);
                if (o.charges.containsKey(number)) {
                    throw new Fault(2, told.place);
                }
                in.need("is");
                o.charges.put(number, in.number(0, 999));
            }
            case "hours" -> {
                int from = in.number(0, 1440);
                in.need("to");
                o.hours = new int[] {from, in.number(from + 1, 1440)};
            }
            case "free" -> {
                in.need("when");
                o.free = either(in, word, units, 0);
            }
            case "grace" -> o.grace = in.number(0, 20);
            case "appeal" -> {
                in.need("when");
                o.appeal = either(in, word, units, 0);
            }
            default -> throw new Fault(2, first.place);
        }
    }

    private static Cond either(Reader in, String line, int[] units, int nests) {
        Cond left = both(in, line, units, nests);
        while (in.isNext("or")) {
            in.next();
            Cond before = left;
            Cond right = both(in, line, units, nests);
            left = asked -> before.holds(asked) || right.holds(asked);
        }
        return left;
    }

    private static Cond both(Reader in, String line, int[] units, int nests) {
        Cond left = one(in, line, units, nests);
        while (in.isNext("and")) {
            in.next();
            Cond before = left;
            Cond right = one(in, line, units, nests);
            left = asked -> before.holds(asked) && right.holds(asked);
        }
        return left;
    }

    private static Cond one(Reader in, String line, int[] units, int nests) {
        boolean not = in.isNext("not");
        if (not || in.isNext("(")) {
            Token first = in.next();
            if (nests > 6) {
                throw new Fault(2, first.place);
            }
            if (not) {
                Cond behind = one(in, line, units, nests + 1);
                return asked -> !behind.holds(asked);
            }
            Cond within = either(in, line, units, nests + 1);
            in.need(")");
            return within;
        }
        Sum left = sum(in, line, units);
        Token sign = in.peek();
        if (!"<>=".contains(sign.kind)) {
            throw new Fault(2, sign.place);
        }
        in.next();
        Sum right = sum(in, line, units);
        return asked -> {
            int order = Integer.compare(left.of(asked), right.of(asked));
            return order == (sign.kind.equals("<") ? -1 : sign.kind.equals(">") ? 1 : 0);
        };
    }

    private static Sum sum(Reader in, String line, int[] units) {
        Sum left = unit(in, line, units);
        while (in.isNext("+") || in.isNext("-")) {
            int turn = in.next().kind.equals("+") ? 1 : -1;
            Sum before = left;
            Sum right = unit(in, line, units);
            left = asked -> before.of(asked) + turn * right.of(asked);
        }
        return left;
    }

    private static Sum unit(Reader in, String line, int[] units) {
        Token token = in.peek();
        boolean word = token.kind.equals("word") && Arrays.asList("fuel", "norm", "kind", "home", "day", "minute",
                "entries", "class").contains(token.word);
        if (!word && !token.kind.equals("N") || units[0] == 50) {
            throw new Fault(2, token.place);
        }
        boolean appealAlone = token.word.equals("minute") || token.word.equals("entries");
        if (appealAlone && !line.equals("appeal") || token.word.equals("class") && line.equals("class")) {
            throw new Fault(6, token.place);
        }
        units[0]++;
        in.next();
        return word ? asked -> asked.get(token.word) : asked -> token.value;
    }

    private Orders inForce(int day) {
        Orders best = null;
        for (Orders o : orders) {
            if (o.day <= day && (best == null || o.day >= best.day)) {
                best = o;
            }
        }
        return best;
    }

    private int chargeOf(int day, int number) {
        Orders o = inForce(day);
        return o == null ? 0 : o.charges.getOrDefault(number, 0);
    }

    // ---- plates and facts

    private static String six(long signs) {
        StringBuilder six = new StringBuilder();
        for (int i = 5; i >= 0; i--) {
            six.append((char) (signs >>> 8 * i & 255));
        }
        return six.toString();
    }

    int plate(long signs, int fleet) {
        String six = six(signs);
        boolean told = plates.stream().anyMatch(p -> p.signs.equals(six));
        if (!six.matches("[a-z0-9]{6}") || told || fleet < 0 || fleet > 9 || plates.size() == 10) {
            return NONE;
        }
        plates.add(new Plate(six, fleet));
        return plates.size() - 1;
    }

    private boolean isPlate(int plate) {
        return plate >= 0 && plate < plates.size();
    }

    private static boolean isDay(int day) {
        return day >= 0 && day <= 99;
    }

    private int tell(Fact fact) {
        if (facts.size() == 200) {
            return NONE;
        }
        fact.told = time;
        facts.add(fact);
        return facts.size() - 1;
    }

    int papers(int plate, int day, int fuel, int norm, int kind, int home) {
        int[] all = {fuel, norm, kind, home};
        boolean fit = home <= 1;
        for (int one : all) {
            fit = fit && one >= 0 && one <= 9;
        }
        if (!isPlate(plate) || !isDay(day) || !fit) {
            return NONE;
        }
        Fact fact = new Fact();
        fact.kind = 'p';
        fact.plate = plate;
        fact.day = day;
        fact.papers = all;
        return tell(fact);
    }

    int read(int camera, int day, int minute, long signs) {
        if (camera < 0 || camera >= cameras.size() || !isDay(day) || !six(signs).matches("[a-z0-9?]{6}")) {
            return NONE;
        }
        Camera by = cameras.get(camera);
        long sameDay = facts.stream().filter(f -> f.kind == 'r' && f.day == day).count();
        if (minute < by.from || minute >= by.to || sameDay == 7) {
            return NONE;
        }
        Fact fact = new Fact();
        fact.kind = 'r';
        fact.day = day;
        fact.camera = by;
        fact.minute = minute;
        fact.signs = six(signs);
        return tell(fact);
    }

    int appeal(int plate, int day) {
        if (!isPlate(plate) || !isDay(day)) {
            return NONE;
        }
        Fact fact = new Fact();
        fact.kind = 'a';
        fact.plate = plate;
        fact.day = day;
        return tell(fact);
    }

    boolean untell(int fact) {
        if (fact < 0 || fact >= facts.size() || facts.get(fact).kind == 'x' || facts.get(fact).untold != null) {
            return false;
        }
        facts.get(fact).untold = time;
        return true;
    }

    int later(int by) {
        if (by < 0 || by > 1000 || time + by > 100000) {
            return NONE;
        }
        time += by;
        return time;
    }

    private static int price(String read, String plate) {
        int price = 0;
        for (int i = 0; i < 6; i++) {
            char a = read.charAt(i);
            char b = plate.charAt(i);
            boolean looks = false;
            for (String group : new String[] {"0o", "1il", "8b", "5s", "2z", "uv"}) {
                looks = looks || group.indexOf(a) >= 0 && group.indexOf(b) >= 0;
            }
            price += a == b ? 0 : a == '?' || looks ? 1 : 9;
        }
        return price > 2 ? 9 : price;
    }

    private boolean isReading(int fact) {
        return fact >= 0 && fact < facts.size() && facts.get(fact).kind == 'r';
    }

    int like(int reading, int plate) {
        if (!isReading(reading) || !isPlate(plate)) {
            return NONE;
        }
        return price(facts.get(reading).signs, plates.get(plate).signs);
    }

    // ---- whose

    private List<Fact> readingsOf(int day, int k) {
        return facts.stream().filter(f -> f.kind == 'r' && f.day == day && f.counts(k)).toList();
    }

    private boolean canBeOne(Fact a, Fact b) {
        Integer minutes = way(a.camera.point, b.camera.point);
        return minutes != null && Math.abs(a.minute - b.minute) >= minutes;
    }

    /** All choices, first to last; a later one counts only if it is cheaper. */
    private final class Choice {
        final List<Fact> readings;
        final int[] now;
        int[] best;
        int bestPrice = Integer.MAX_VALUE;

        Choice(int day, int k) {
            readings = readingsOf(day, k);
            now = new int[readings.size()];
            go(0, 0);
        }

        private void go(int i, int price) {
            if (price >= bestPrice) {
                return;
            }
            if (i == now.length) {
                bestPrice = price;
                best = now.clone();
                return;
            }
            Fact reading = readings.get(i);
            for (int plate = 0; plate < plates.size(); plate++) {
                int likes = price(reading.signs, plates.get(plate).signs);
                boolean can = likes < 9;
                for (int j = 0; j < i && can; j++) {
                    can = now[j] != plate || canBeOne(readings.get(j), reading);
                }
                if (can) {
                    now[i] = plate;
                    go(i + 1, price + likes);
                }
            }
            now[i] = NONE;
            go(i + 1, price + 4);
        }

        int ownerOf(Fact fact) {
            int i = readings.indexOf(fact);
            return i < 0 ? NONE : best[i];
        }
    }

    private final Map<String, Choice> chosen = new HashMap<>();

    /** A choice is kept until the next call that may change one. */
    void forget() {
        chosen.clear();
    }

    private Choice choice(int day, int k) {
        return chosen.computeIfAbsent(day + " " + k, key -> new Choice(day, k));
    }

    int whose(int reading, int k) {
        return isReading(reading) ? choice(facts.get(reading).day, k).ownerOf(facts.get(reading)) : NONE;
    }

    int doubt(int day, int k) {
        return isDay(day) ? choice(day, k).bestPrice : NONE;
    }

    int isDouble(int plate, int day, int k) {
        if (!isPlate(plate) || !isDay(day)) {
            return NONE;
        }
        List<Fact> exact = readingsOf(day, k).stream().filter(f -> f.signs.equals(plates.get(plate).signs)).toList();
        for (Fact a : exact) {
            for (Fact b : exact) {
                if (!canBeOne(a, b)) {
                    return 1;
                }
            }
        }
        return 0;
    }

    private List<Fact> ownOf(int plate, int day, int k) {
        Choice choice = choice(day, k);
        List<Fact> own = new ArrayList<>(choice.readings.stream().filter(f -> choice.ownerOf(f) == plate).toList());
        own.sort((a, b) -> a.minute - b.minute);
        return own;
    }

    /** The least minutes by a P within the zone, or outside it. */
    private int by(int a, int b, boolean within) {
        int least = 100000;
        for (int middle = 0; middle < 12; middle++) {
            Integer there = way(a, middle);
            Integer on = way(middle, b);
            if (zone.contains(middle) == within && there != null && on != null) {
                least = Math.min(least, there + on);
            }
        }
        return least;
    }

    int inside(int plate, int day, boolean most, int k) {
        if (!isPlate(plate) || !isDay(day)) {
            return NONE;
        }
        List<Fact> own = ownOf(plate, day, k);
        int sum = 0;
        for (int i = 0; i + 1 < own.size(); i++) {
            int a = own.get(i).camera.point;
            int b = own.get(i + 1).camera.point;
            int g = own.get(i + 1).minute - own.get(i).minute;
            int in = (zone.contains(a) ? 1 : 0) + (zone.contains(b) ? 1 : 0);
            int byOut = by(a, b, false);
            int byIn = by(a, b, true);
            if (in == 2) {
                sum += most || g < byOut ? g : byOut;
            } else if (in == 1) {
                sum += most ? g : 0;
            } else {
                sum += !most || g < byIn ? 0 : g - byIn;
            }
        }
        return sum;
    }

    // ---- charges

    /** Minutes at which a plate was seen in the zone in hours, in order. */
    private List<Integer> entryMinutes(int plate, int day, int k) {
        Orders o = inForce(day);
        List<Integer> minutes = new ArrayList<>();
        if (o == null) {
            return minutes;
        }
        for (Fact f : ownOf(plate, day, k)) {
            boolean inHours = o.hours == null || f.minute >= o.hours[0] && f.minute < o.hours[1];
            if (zone.contains(f.camera.point) && inHours) {
                minutes.add(f.minute);
            }
        }
        return minutes;
    }

    private Map<String, Integer> asked(int plate, int day, int k) {
        Fact best = null;
        for (Fact f : facts) {
            if (f.kind == 'p' && f.plate == plate && f.day <= day && f.counts(k) && (best == null || f.day >= best.day)) {
                best = f;
            }
        }
        Map<String, Integer> asked = new HashMap<>();
        String[] names = {"fuel", "norm", "kind", "home"};
        for (int i = 0; i < 4; i++) {
            asked.put(names[i], best == null ? 0 : best.papers[i]);
        }
        asked.put("day", day);
        return asked;
    }

    int classOf(int plate, int day, int k) {
        if (!isPlate(plate) || !isDay(day)) {
            return NONE;
        }
        Orders o = inForce(day);
        if (o != null) {
            Map<String, Integer> asked = asked(plate, day, k);
            for (ClassLine line : o.classes) {
                if (line.when.holds(asked)) {
                    return line.number;
                }
            }
        }
        return 0;
    }

    int entries(int plate, int day, int k) {
        if (!isPlate(plate) || !isDay(day)) {
            return NONE;
        }
        int sum = 0;
        for (int d = 0; d < day; d++) {
            sum += entryMinutes(plate, d, k).isEmpty() ? 0 : 1;
        }
        return sum;
    }

    int charge(int plate, int day, int k) {
        if (!isPlate(plate) || !isDay(day)) {
            return NONE;
        }
        List<Integer> minutes = entryMinutes(plate, day, k);
        if (minutes.isEmpty()) {
            return 0;
        }
        Orders o = inForce(day);
        int entries = entries(plate, day, k);
        Map<String, Integer> asked = asked(plate, day, k);
        asked.put("class", classOf(plate, day, k));
        asked.put("minute", minutes.get(0));
        asked.put("entries", entries);
        boolean appealed = facts.stream().anyMatch(f -> f.kind == 'a' && f.plate == plate && f.day == day && f.counts(k));
        boolean nothing = o.free != null && o.free.holds(asked) || o.grace != null && entries < o.grace
                || appealed && o.appeal != null && o.appeal.holds(asked);
        return nothing ? 0 : chargeOf(day, asked.get("class"));
    }

    int account(int fleet, int from, int to, int k) {
        if (fleet < 0 || fleet > 9 || !isDay(from) || !isDay(to) || to < from) {
            return NONE;
        }
        int sum = 0;
        for (int plate = 0; plate < plates.size(); plate++) {
            for (int day = from; day <= to && plates.get(plate).fleet == fleet; day++) {
                sum += charge(plate, day, k);
            }
        }
        return sum;
    }

    int back(int fleet, int from, int to, int k, int then) {
        int known = account(fleet, from, to, k);
        return known == NONE ? -1000000 : known - account(fleet, from, to, then);
    }

    // ---- the air

    int air(int site, int day, int wind, int value) {
        boolean can = (site == 0 || site == 1) && isDay(day) && wind >= 0 && wind <= 3 && value >= 0 && value <= 999;
        if (!can || airs.get(site).containsKey(day) || airs.get(0).size() + airs.get(1).size() == 120) {
            return NONE;
        }
        airs.get(site).put(day, new AirValue(wind, value));
        return airs.get(0).size() + airs.get(1).size();
    }

    private List<Integer> gains(int day) {
        List<Integer> gains = new ArrayList<>();
        for (int wind = 0; wind < 4; wind++) {
            List<Integer> before = new ArrayList<>();
            List<Integer> behind = new ArrayList<>();
            for (int d = 0; d < 100; d++) {
                AirValue here = airs.get(0).get(d);
                AirValue there = airs.get(1).get(d);
                if (here != null && there != null && here.wind == wind && there.wind == wind) {
                    (d < day ? before : behind).add(here.value - there.value);
                }
            }
            for (int i = 0; i < Math.min(before.size(), behind.size()); i++) {
                gains.add(before.get(i) - behind.get(i));
            }
        }
        return gains.subList(0, Math.min(12, gains.size()));
    }

    int effect(int day) {
        return isDay(day) ? gains(day).stream().mapToInt(g -> g).sum() : -1000000;
    }

    private int waysAsGood(List<Integer> gains, int i, int sum, int size) {
        if (i == gains.size()) {
            return Math.abs(sum) >= size ? 1 : 0;
        }
        return waysAsGood(gains, i + 1, sum + gains.get(i), size) + waysAsGood(gains, i + 1, sum - gains.get(i), size);
    }

    int doubtOf(int day, int what) {
        if (!isDay(day) || what < 0 || what > 1) {
            return NONE;
        }
        List<Integer> gains = gains(day);
        return what == 1 ? (int) Math.pow(2, gains.size()) : waysAsGood(gains, 0, 0, Math.abs(effect(day)));
    }

    // ---- trips

    int trip(int from, int to, int cars, int value, int kind) {
        boolean can = between(from, to) > 0 && cars >= 1 && cars <= 99 && value >= 1 && value <= 99 && kind >= 0
                && kind <= 9 && trips.size() < 20;
        if (!can) {
            return NONE;
        }
        trips.add(new Trip(from, to, cars, value, kind));
        return trips.size() - 1;
    }

    /** All ways without a P twice, first to last by number; a later one counts only if it is cheaper. */
    private final class Search {
        final Trip trip;
        final int charge;
        List<Integer> best;
        int bestCost = Integer.MAX_VALUE;
        int bestMinutes;

        Search(Trip trip, int day, boolean withZone) {
            this.trip = trip;
            this.charge = withZone ? chargeOf(day, trip.number) : 0;
            go(new ArrayList<>(List.of(trip.from)), 0);
        }

        private void go(List<Integer> path, int minutes) {
            int here = path.get(path.size() - 1);
            if (minutes * trip.value > bestCost) {
                return;
            }
            if (here == trip.to) {
                boolean touches = path.stream().anyMatch(zone::contains);
                int cost = minutes * trip.value + (touches ? charge : 0);
                if (cost < bestCost) {
                    bestCost = cost;
                    bestMinutes = minutes;
                    best = new ArrayList<>(path);
                }
                return;
            }
            for (int next = 0; next < 12; next++) {
                Way w = straight(here, next);
                if (w != null && !path.contains(next)) {
                    path.add(next);
                    go(path, minutes + w.minutes);
                    path.remove(path.size() - 1);
                }
            }
        }
    }

    private Way straight(int a, int b) {
        Way best = null;
        for (Way w : ways) {
            boolean joins = w.a == a && w.b == b || w.a == b && w.b == a;
            if (joins && (best == null || w.minutes < best.minutes)) {
                best = w;
            }
        }
        return best;
    }

    private boolean isTrip(int trip) {
        return trip >= 0 && trip < trips.size();
    }

    int minutes(int trip, int day, boolean withZone) {
        return isTrip(trip) && isDay(day) ? new Search(trips.get(trip), day, withZone).bestMinutes : NONE;
    }

    int via(int trip, int day, boolean withZone, int n) {
        if (!isTrip(trip) || !isDay(day)) {
            return NONE;
        }
        List<Integer> path = new Search(trips.get(trip), day, withZone).best;
        return n >= 0 && n < path.size() ? path.get(n) : NONE;
    }

    int load(int way, int day, boolean withZone) {
        if (way < 0 || way >= ways.size() || !isDay(day)) {
            return NONE;
        }
        int sum = 0;
        for (Trip trip : trips) {
            List<Integer> path = new Search(trip, day, withZone).best;
            for (int i = 0; i + 1 < path.size(); i++) {
                sum += straight(path.get(i), path.get(i + 1)) == ways.get(way) ? trip.cars : 0;
            }
        }
        return sum;
    }

    int around(int day) {
        if (!isDay(day)) {
            return NONE;
        }
        int sum = 0;
        for (Trip trip : trips) {
            boolean without = new Search(trip, day, false).best.stream().anyMatch(zone::contains);
            boolean with = new Search(trip, day, true).best.stream().anyMatch(zone::contains);
            sum += without && !with ? trip.cars : 0;
        }
        return sum;
    }

    /** The best set and how many it sees. */
    private int[] bestView(int day, int most) {
        List<Set<Integer>> paths = new ArrayList<>();
        for (Trip trip : trips) {
            paths.add(new HashSet<>(new Search(trip, day, true).best));
        }
        Set<Integer> now = new HashSet<>();
        cameras.forEach(c -> now.add(c.point));
        int[] best = {0, 0};
        for (int size = 0; size <= most; size++) {
            for (int set = 0; set < 4096; set++) {
                if (Integer.bitCount(set) != size) {
                    continue;
                }
                int seen = seenBy(set, paths, now);
                if (seen > best[1]) {
                    best = new int[] {set, seen};
                }
            }
        }
        return best;
    }

    private int seenBy(int set, List<Set<Integer>> paths, Set<Integer> now) {
        int seen = 0;
        for (int point = 0; point < 12; point++) {
            if ((set >> point & 1) == 1 && now.contains(point)) {
                return NONE;
            }
        }
        for (int t = 0; t < trips.size(); t++) {
            boolean meetsNew = paths.get(t).stream().anyMatch(p -> (set >> p & 1) == 1);
            boolean meetsOld = paths.get(t).stream().anyMatch(now::contains);
            seen += meetsNew && !meetsOld ? trips.get(t).cars : 0;
        }
        return seen;
    }

    int view(int day, int most) {
        return isDay(day) && most >= 0 && most <= 3 ? bestView(day, most)[0] : NONE;
    }

    int seen(int day, int most) {
        return isDay(day) && most >= 0 && most <= 3 ? bestView(day, most)[1] : NONE;
    }

    int about(int what) {
        int[] all = {ways.size(), zone.size(), cameras.size(), orders.size(), plates.size(), facts.size(), time,
            trips.size(), airs.get(0).size() + airs.get(1).size(), tape.length()};
        return what >= 0 && what < all.length ? all[what] : NONE;
    }
}
