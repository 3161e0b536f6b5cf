import java.util.Arrays;

/**
 * A city that charges for coming into its zone. The words in capitals are those of the document;
 * every call answers as the promise that bears its name says.
 */
public final class AirZone {
    public static final int NONE = -1;

    private static final int REFUSED = -2;
    private static final int NO_SUM = -1000000;

    private static final int TAPE_MOST = 900;
    private static final int ORDERS_BYTES_MOST = 700;
    private static final int FED_BYTES = 20;
    private static final int DAYS = 100;
    private static final int DAY_MINUTES = 1440;
    private static final int POINTS = 12;
    private static final int ALL_POINTS = (1 << POINTS) - 1;
    private static final int WAYS_MOST = 24;
    private static final int WAY_MINUTES_MOST = 99;
    private static final int CAMERAS_MOST = 8;
    private static final int NEW_CAMERAS_MOST = 3;
    private static final int ORDERS_MOST = 6;
    private static final int CLASS_LINES_MOST = 6;
    private static final int CLASSES = 10;
    private static final int CHARGE_MOST = 999;
    private static final int GRACE_MOST = 20;
    private static final int UNITS_MOST = 50;
    private static final int NESTS_MOST = 7;
    private static final int PLATES_MOST = 10;
    private static final int FLEETS = 10;
    private static final int FACTS_MOST = 200;
    private static final int DAY_READINGS_MOST = 7;
    private static final int PAPER_VALUES = 10;
    private static final int TIME_STEP_MOST = 1000;
    private static final int TIME_MOST = 100000;
    private static final int SIGNS = 6;
    private static final long SIGNS_MASK = 0xFFFFFFFFFFFFL;
    private static final int LIKE_MOST = 2;
    private static final int NOT_LIKE = 9;
    private static final int SITES = 2;
    private static final int WINDS = 4;
    private static final int AIR_VALUE_MOST = 999;
    private static final int AIR_MOST = 120;
    private static final int PAIRS_MOST = 12;
    private static final int TRIPS_MOST = 20;
    private static final int CARS_MOST = 99;
    private static final int VALUE_MOST = 99;

    /** More minutes than any drive or day has; times a VALUE it still fits an int. */
    private static final int FAR = 1000000;

    private static final int NO_TOKEN = 1;
    private static final int CANT_STAND = 2;
    private static final int BAD_NUMBER = 4;
    private static final int TOLD_ALREADY = 5;
    private static final int NOT_TO_ASK = 6;

    // Kinds of TOKENS; a sign's kind is its own byte, so that these keep off 40 to 62.
    private static final int END = 0;
    private static final int BAD = 1;
    private static final int NUMBER = 2;
    private static final int POINT = 3;
    private static final int OTHER_WORD = 4;
    private static final int WAY = 100;
    private static final int ZONE = 101;
    private static final int CAMERA = 102;
    private static final int FROM = 103;
    private static final int TO = 104;
    private static final int CHARGE = 105;
    private static final int IS = 106;
    private static final int HOURS = 107;
    private static final int FREE = 108;
    private static final int GRACE = 109;
    private static final int APPEAL = 110;
    private static final int WHEN = 111;
    private static final int OR = 112;
    private static final int AND = 113;
    private static final int NOT = 114;
    // The units stand in a row: FUEL is the first, CLASS the last one.
    private static final int FUEL = 120;
    private static final int NORM = 121;
    private static final int KIND = 122;
    private static final int HOME = 123;
    private static final int DAY = 124;
    private static final int MINUTE = 125;
    private static final int ENTRIES = 126;
    private static final int CLASS = 127;
    private static final int ASKED = CLASS - FUEL + 1;

    /** A unit word's step is UNIT_STEP less its place in the row; an N is a step of its own. */
    private static final int UNIT_STEP = -1;
    private static final int STOP_STEP = -100;
    private static final int STEPS_MOST = 400;

    private static final int PAPERS_FACT = 1;
    private static final int READING_FACT = 2;
    private static final int APPEAL_FACT = 3;
    private static final int GONE_FACT = 4;

    // A choice for a DAY is one number: its price, and behind it a digit for each READING.
    private static final int NOBODY = 10;
    private static final int NOBODY_PRICE = 4;
    private static final int DIGIT = 11;
    private static final int[] DIGIT_WORTH = {1, 11, 121, 1331, 14641, 161051, 1771561};
    private static final int PRICE_WORTH = 19487171;
    private static final int READING_SETS = 1 << DAY_READINGS_MOST;

    private final Text text;
    private final Town town;
    private final Town draft;
    private final OrderBook book;
    private final OrdersReader ordersReader;
    private final Plates plates;
    private final Facts facts;
    private final Owners owners;
    private final Ledger ledger;
    private final Air airs;
    private final Trips trips;

    public AirZone() {
        text = new Text();
        town = new Town();
        town.measure();
        draft = new Town();
        book = new OrderBook();
        ordersReader = new OrdersReader(text);
        plates = new Plates();
        facts = new Facts();
        owners = new Owners(town, plates, facts);
        ledger = new Ledger(book, facts, plates, owners);
        airs = new Air();
        trips = new Trips(town, book);
    }

    public int feed(int a, int b, int c, int d, int e) {
        if (text.length > TAPE_MOST - FED_BYTES) {
            return NONE;
        }
        text.append(a);
        text.append(b);
        text.append(c);
        text.append(d);
        text.append(e);
        return text.length;
    }

    public int end(int n) {
        if (n < 0 || n > text.length) {
            return NONE;
        }
        text.length = n;
        return n;
    }

    public int map() {
        text.split();
        text.length = 0;
        // A text with a FAULT must leave the MAP as it is: a draft takes it first.
        if (draft.readLines(text) == NONE) {
            return NONE;
        }
        text.restart();
        int lines = town.readLines(text);
        town.measure();
        facts.dropReadings();
        owners.forget();
        trips.count = 0;
        return lines;
    }

    public int orders(int day) {
        if (text.length > ORDERS_BYTES_MOST || !isDay(day) || book.count >= ORDERS_MOST) {
            return REFUSED;
        }
        text.split();
        text.length = 0;
        Orders next = book.told[book.count];
        next.clear(day);
        if (!ordersReader.readLines(next)) {
            return NONE;
        }
        book.count++;
        return book.count - 1;
    }

    public int fault(int what) {
        if (what == 0) {
            return text.fault;
        }
        return what == 1 ? text.faultPlace : NONE;
    }

    public int between(int a, int b) {
        int minutes = town.near(a, b);
        return minutes >= FAR ? NONE : minutes;
    }

    public int plate(long signs, int fleet) {
        int number = plates.add(signs & SIGNS_MASK, fleet);
        if (number != NONE) {
            owners.forget();
        }
        return number;
    }

    public int papers(int plate, int day, int fuel, int norm, int kind, int home) {
        boolean can = isUnder(plate, plates.count) && isDay(day) && isUnder(fuel, PAPER_VALUES)
                && isUnder(norm, PAPER_VALUES) && isUnder(kind, PAPER_VALUES) && isUnder(home, 2);
        if (!can || facts.count >= FACTS_MOST) {
            return NONE;
        }
        return facts.addPapers(plate, day, fuel * 1000 + norm * 100 + kind * 10 + home);
    }

    public int read(int camera, int day, int minute, long signs) {
        boolean can = town.works(camera, minute) && facts.hasRoomOn(day)
                && Plates.areSigns(signs & SIGNS_MASK, true);
        if (!can || facts.count >= FACTS_MOST) {
            return NONE;
        }
        owners.forget();
        return facts.addReading(camera, day, minute, signs & SIGNS_MASK);
    }

    public int appeal(int plate, int day) {
        if (!isPlateAndDay(plate, day) || facts.count >= FACTS_MOST) {
            return NONE;
        }
        return facts.addAppeal(plate, day);
    }

    public boolean untell(int fact) {
        owners.forget();
        return facts.takeBack(fact);
    }

    public int later(int by) {
        if (by < 0 || by > TIME_STEP_MOST || facts.time + by > TIME_MOST) {
            return NONE;
        }
        facts.time += by;
        return facts.time;
    }

    public int like(int reading, int plate) {
        if (!facts.isReading(reading) || !isUnder(plate, plates.count)) {
            return NONE;
        }
        return Plates.likeness(facts.signs[reading], plates.signs[plate]);
    }

    public int whose(int reading, int k) {
        if (!facts.isReading(reading)) {
            return NONE;
        }
        owners.choose(facts.days[reading], k);
        return owners.chosenOwner(reading);
    }

    public int doubt(int day, int k) {
        return isDay(day) ? owners.priceOf(day, k) : NONE;
    }

    public int isDouble(int plate, int day, int k) {
        if (!isPlateAndDay(plate, day)) {
            return NONE;
        }
        return owners.twoBear(plate, day, k) ? 1 : 0;
    }

    public int inside(int plate, int day, boolean most, int k) {
        return isPlateAndDay(plate, day) ? owners.stay(plate, day, most, k) : NONE;
    }

    public int classOf(int plate, int day, int k) {
        return isPlateAndDay(plate, day) ? ledger.classOn(plate, day, k) : NONE;
    }

    public int entries(int plate, int day, int k) {
        if (!isPlateAndDay(plate, day)) {
            return NONE;
        }
        owners.chooseUpTo(day, k);
        return ledger.entriesAhead(plate, day);
    }

    public int charge(int plate, int day, int k) {
        if (!isPlateAndDay(plate, day)) {
            return NONE;
        }
        owners.chooseUpTo(day, k);
        return ledger.sumOf(plate, day, day, k);
    }

    public int account(int fleet, int from, int to, int k) {
        if (!isFleetAndDays(fleet, from, to)) {
            return NONE;
        }
        owners.chooseUpTo(to, k);
        return ledger.fleetSum(fleet, from, to, k);
    }

    public int back(int fleet, int from, int to, int k, int then) {
        if (!isFleetAndDays(fleet, from, to)) {
            return NO_SUM;
        }
        owners.chooseUpTo(to, k);
        int known = ledger.fleetSum(fleet, from, to, k);
        owners.chooseUpTo(to, then);
        return known - ledger.fleetSum(fleet, from, to, then);
    }

    public int air(int site, int day, int wind, int value) {
        boolean can = isUnder(site, SITES) && isDay(day) && isUnder(wind, WINDS)
                && value >= 0 && value <= AIR_VALUE_MOST;
        return can ? airs.add(site, day, wind, value) : NONE;
    }

    public int effect(int day) {
        return isDay(day) ? airs.gainFrom(day) : NO_SUM;
    }

    public int doubtOf(int day, int what) {
        if (!isDay(day) || !isUnder(what, 2)) {
            return NONE;
        }
        return what == 0 ? airs.waysAsGood(day) : airs.waysFrom(day);
    }

    public int trip(int from, int to, int cars, int value, int kind) {
        boolean can = from != to && town.near(from, to) < FAR && cars >= 1 && cars <= CARS_MOST
                && value >= 1 && value <= VALUE_MOST && isUnder(kind, CLASSES);
        return can ? trips.add(from, to, cars, value, kind) : NONE;
    }

    public int minutes(int trip, int day, boolean zone) {
        if (!isUnder(trip, trips.count) || !isDay(day)) {
            return NONE;
        }
        trips.follow(trip, day, zone);
        return trips.routeMinutes;
    }

    public int via(int trip, int day, boolean zone, int n) {
        if (!isUnder(trip, trips.count) || !isDay(day)) {
            return NONE;
        }
        trips.follow(trip, day, zone);
        return isUnder(n, trips.routeLength) ? trips.route[n] : NONE;
    }

    public int load(int way, int day, boolean zone) {
        return isUnder(way, town.wayCount) && isDay(day) ? trips.carsOn(way, day, zone) : NONE;
    }

    public int around(int day) {
        return isDay(day) ? trips.carsAround(day) : NONE;
    }

    public int view(int day, int cameras) {
        if (!isDay(day) || !isUnder(cameras, NEW_CAMERAS_MOST + 1)) {
            return NONE;
        }
        trips.placeCameras(day, cameras);
        return trips.bestSet;
    }

    public int seen(int day, int cameras) {
        if (!isDay(day) || !isUnder(cameras, NEW_CAMERAS_MOST + 1)) {
            return NONE;
        }
        trips.placeCameras(day, cameras);
        return trips.bestSeen;
    }

    public int about(int what) {
        switch (what) {
            case 0: return town.wayCount;
            case 1: return Integer.bitCount(town.zonePoints);
            case 2: return town.cameraCount;
            case 3: return book.count;
            case 4: return plates.count;
            case 5: return facts.count;
            case 6: return facts.time;
            case 7: return trips.count;
            case 8: return airs.count;
            case 9: return text.length;
            default: return NONE;
        }
    }

    private boolean isPlateAndDay(int plate, int day) {
        return isUnder(plate, plates.count) && isDay(day);
    }

    private static boolean isFleetAndDays(int fleet, int from, int to) {
        return isUnder(fleet, FLEETS) && isDay(from) && isDay(to) && from <= to;
    }

    private static boolean isDay(int day) {
        return day >= 0 && day < DAYS;
    }

    private static boolean isUnder(int value, int bound) {
        return value >= 0 && value < bound;
    }

    /** The TAPE; the TOKENS of the text read last and the first FAULT in it. */
    private static final class Text {
        private final byte[] tape = new byte[TAPE_MOST];
        private final int[] kinds = new int[TAPE_MOST + 1];
        private final int[] values = new int[TAPE_MOST + 1];
        private final int[] places = new int[TAPE_MOST + 1];
        private int length;
        private int tokens;
        private int at;
        private int fault;
        private int faultPlace = NONE;

        void append(int four) {
            for (int shift = 24; shift >= 0 && length < TAPE_MOST; shift -= 8) {
                tape[length] = (byte) (four >> shift);
                length++;
            }
        }

        /** Parts the TAPE into TOKENS, up to its end or to a place where none stands. */
        void split() {
            tokens = 0;
            restart();
            int place = 0;
            for (int n = 0; n < TAPE_MOST && place < length; n++) {
                int next = isBlank(byteAt(place)) ? place + 1 : scan(place);
                if (next == place) {
                    put(BAD, 0, place);
                    return;
                }
                place = next;
            }
            put(END, 0, length);
        }

        void restart() {
            at = 0;
            fault = 0;
            faultPlace = NONE;
        }

        int kind() {
            return at < tokens ? kinds[at] : END;
        }

        int value() {
            return at < tokens ? values[at] : 0;
        }

        /** The last TOKEN, END or BAD, is never gone behind. */
        void step() {
            if (at < tokens - 1) {
                at++;
            }
        }

        /** Notes the FAULT at this TOKEN, if it is the first: false, for the caller to hand on. */
        boolean fail(int what) {
            if (fault == 0 && at < tokens) {
                fault = kinds[at] == BAD ? NO_TOKEN : what;
                faultPlace = places[at];
            }
            return false;
        }

        boolean take(int wanted) {
            if (kind() != wanted) {
                return fail(CANT_STAND);
            }
            step();
            return true;
        }

        /** The N that stands here, from least to most, or NONE and a FAULT. */
        int takeNumber(int least, int most) {
            int number = value();
            if (kind() != NUMBER) {
                fail(CANT_STAND);
                return NONE;
            }
            if (number < least || number > most) {
                fail(BAD_NUMBER);
                return NONE;
            }
            step();
            return number;
        }

        /** The P that stands here and is not one of those told, or NONE and a FAULT. */
        int takePoint(int told) {
            int point = value();
            if (kind() != POINT) {
                fail(CANT_STAND);
                return NONE;
            }
            if ((told >> point & 1) == 1) {
                fail(TOLD_ALREADY);
                return NONE;
            }
            step();
            return point;
        }

        private void put(int kind, int value, int place) {
            if (tokens < kinds.length) {
                kinds[tokens] = kind;
                values[tokens] = value;
                places[tokens] = place;
                tokens++;
            }
        }

        private int byteAt(int place) {
            return place >= 0 && place < length ? tape[place] & 255 : NONE;
        }

        /** Puts the TOKEN that begins at a place: where it ends, or the place if none does. */
        private int scan(int place) {
            int first = byteAt(place);
            if (isDigit(first)) {
                return scanNumber(place);
            }
            if (isLetter(first)) {
                int behind = first == 'p' ? scanPoint(place) : place;
                return behind > place ? behind : scanWord(place);
            }
            if (!isMark(first)) {
                return place;
            }
            put(first, 0, place);
            return place + 1;
        }

        private int scanNumber(int place) {
            int behind = digitsEnd(place);
            if (behind - place > 4 || isLetter(byteAt(behind))) {
                return place;
            }
            put(NUMBER, numberIn(place, behind), place);
            return behind;
        }

        private int scanPoint(int place) {
            int behind = digitsEnd(place + 1);
            int digits = behind - place - 1;
            if (digits < 1 || digits > 2 || isLetter(byteAt(behind))) {
                return place;
            }
            int point = numberIn(place + 1, behind);
            if (point >= POINTS) {
                return place;
            }
            put(POINT, point, place);
            return behind;
        }

        private int scanWord(int place) {
            int behind = place;
            while (behind < length && isLetter(byteAt(behind))) {
                behind++;
            }
            if (behind - place > 8) {
                return place;
            }
            int kind = lineWord(place, behind);
            put(kind == OTHER_WORD ? innerWord(place, behind) : kind, 0, place);
            return behind;
        }

        private int digitsEnd(int place) {
            int behind = place;
            while (behind < length && isDigit(byteAt(behind))) {
                behind++;
            }
            return behind;
        }

        /** Called for four digits at most, so that it can't wrap. */
        private int numberIn(int place, int behind) {
            int number = 0;
            for (int i = place; i < behind; i++) {
                number = number * 10 + byteAt(i) - '0';
            }
            return number;
        }

        private int lineWord(int place, int behind) {
            if (spells("way", place, behind)) return WAY;
            if (spells("zone", place, behind)) return ZONE;
            if (spells("camera", place, behind)) return CAMERA;
            if (spells("class", place, behind)) return CLASS;
            if (spells("charge", place, behind)) return CHARGE;
            if (spells("hours", place, behind)) return HOURS;
            if (spells("free", place, behind)) return FREE;
            if (spells("grace", place, behind)) return GRACE;
            if (spells("appeal", place, behind)) return APPEAL;
            return OTHER_WORD;
        }

        private int innerWord(int place, int behind) {
            if (spells("from", place, behind)) return FROM;
            if (spells("to", place, behind)) return TO;
            if (spells("is", place, behind)) return IS;
            if (spells("when", place, behind)) return WHEN;
            if (spells("or", place, behind)) return OR;
            if (spells("and", place, behind)) return AND;
            if (spells("not", place, behind)) return NOT;
            if (spells("fuel", place, behind)) return FUEL;
            if (spells("norm", place, behind)) return NORM;
            if (spells("kind", place, behind)) return KIND;
            if (spells("home", place, behind)) return HOME;
            if (spells("day", place, behind)) return DAY;
            if (spells("minute", place, behind)) return MINUTE;
            if (spells("entries", place, behind)) return ENTRIES;
            return OTHER_WORD;
        }

        private boolean spells(String word, int place, int behind) {
            if (word.length() != behind - place) {
                return false;
            }
            for (int i = 0; i < word.length(); i++) {
                if (byteAt(place + i) != word.charAt(i)) {
                    return false;
                }
            }
            return true;
        }

        private static boolean isBlank(int sign) {
            return sign == 32 || sign == 10;
        }

        private static boolean isDigit(int sign) {
            return sign >= '0' && sign <= '9';
        }

        private static boolean isLetter(int sign) {
            return sign >= 'a' && sign <= 'z';
        }

        private static boolean isMark(int sign) {
            return sign == ';' || sign == '(' || sign == ')' || sign == '<' || sign == '>'
                    || sign == '=' || sign == '+' || sign == '-';
        }
    }

    /** A MAP, with tables of the minutes between its P. */
    private static final class Town {
        private final int[] wayFrom = new int[WAYS_MOST];
        private final int[] wayTo = new int[WAYS_MOST];
        private final int[] wayMinutes = new int[WAYS_MOST];
        private int wayCount;
        private int zonePoints;
        private final int[] cameraPoint = new int[CAMERAS_MOST];
        private final int[] cameraFrom = new int[CAMERAS_MOST];
        private final int[] cameraTo = new int[CAMERAS_MOST];
        private int cameraCount;
        private int cameraPoints;
        private final int[] hops = new int[POINTS * POINTS];
        private final int[] nearTable = new int[POINTS * POINTS];
        private final int[] besideTable = new int[POINTS * POINTS];
        private final int[] byZoneTable = new int[POINTS * POINTS];
        private final int[] byOutsideTable = new int[POINTS * POINTS];

        /** Reads TOKENS as a MAP, not measured yet: how many lines, or NONE and a FAULT. */
        int readLines(Text text) {
            wayCount = 0;
            zonePoints = 0;
            cameraCount = 0;
            cameraPoints = 0;
            int lines = 0;
            while (lines < TAPE_MOST && text.kind() != END) {
                if (!readLine(text)) {
                    return NONE;
                }
                lines++;
            }
            return lines;
        }

        void measure() {
            Arrays.fill(hops, NONE);
            for (int way = 0; way < wayCount; way++) {
                offerHop(wayFrom[way], wayTo[way], way);
                offerHop(wayTo[way], wayFrom[way], way);
            }
            spread(nearTable, ALL_POINTS);
            spread(besideTable, ALL_POINTS & ~zonePoints);
            joinBy(byZoneTable, zonePoints);
            joinBy(byOutsideTable, ALL_POINTS & ~zonePoints);
        }

        /** The least minutes from a P to another one; FAR if no way joins them, or one is none. */
        int near(int a, int b) {
            return at(nearTable, a, b);
        }

        /** As near, by no P of the zone. */
        int beside(int a, int b) {
            return at(besideTable, a, b);
        }

        /** As near, by a P of the zone. */
        int byZone(int a, int b) {
            return at(byZoneTable, a, b);
        }

        /** As near, by a P outside the zone. */
        int byOutside(int a, int b) {
            return at(byOutsideTable, a, b);
        }

        /** The WAY by which one goes from a P straight to another one, or NONE. */
        int hop(int a, int b) {
            return isUnder(a, POINTS) && isUnder(b, POINTS) ? hops[a * POINTS + b] : NONE;
        }

        int hopMinutes(int a, int b) {
            int way = hop(a, b);
            return isUnder(way, wayCount) ? wayMinutes[way] : FAR;
        }

        boolean isZone(int point) {
            return (zonePoints >> point & 1) == 1;
        }

        int pointOf(int camera) {
            return camera >= 0 && camera < cameraCount ? cameraPoint[camera] : NONE;
        }

        boolean works(int camera, int minute) {
            return isUnder(camera, cameraCount)
                    && minute >= cameraFrom[camera] && minute < cameraTo[camera];
        }

        private boolean readLine(Text text) {
            switch (text.kind()) {
                case WAY: return readWay(text);
                case ZONE: return readZone(text);
                case CAMERA: return readCamera(text);
                default: return text.fail(CANT_STAND);
            }
        }

        private boolean readWay(Text text) {
            if (wayCount >= WAYS_MOST) {
                return text.fail(CANT_STAND);
            }
            text.step();
            int a = text.takePoint(0);
            int b = a == NONE ? NONE : text.takePoint(1 << a);
            int minutes = b == NONE ? NONE : text.takeNumber(1, WAY_MINUTES_MOST);
            if (minutes == NONE || !text.take(';')) {
                return false;
            }
            wayFrom[wayCount] = a;
            wayTo[wayCount] = b;
            wayMinutes[wayCount] = minutes;
            wayCount++;
            return true;
        }

        private boolean readZone(Text text) {
            if (zonePoints != 0) {
                return text.fail(CANT_STAND);
            }
            text.step();
            for (int n = 0; n <= POINTS; n++) {
                if (zonePoints != 0 && text.kind() == ';') {
                    text.step();
                    return true;
                }
                int point = text.takePoint(zonePoints);
                if (point == NONE) {
                    return false;
                }
                zonePoints |= 1 << point;
            }
            return false;
        }

        private boolean readCamera(Text text) {
            if (cameraCount >= CAMERAS_MOST) {
                return text.fail(CANT_STAND);
            }
            text.step();
            int point = text.takePoint(cameraPoints);
            if (point == NONE || !text.take(FROM)) {
                return false;
            }
            int from = text.takeNumber(0, DAY_MINUTES);
            if (from == NONE || !text.take(TO)) {
                return false;
            }
            int to = text.takeNumber(from + 1, DAY_MINUTES);
            if (to == NONE || !text.take(';')) {
                return false;
            }
            cameraPoint[cameraCount] = point;
            cameraFrom[cameraCount] = from;
            cameraTo[cameraCount] = to;
            cameraPoints |= 1 << point;
            cameraCount++;
            return true;
        }

        /** Called in the order of telling: of like WAYS the first told stays. */
        private void offerHop(int a, int b, int way) {
            int cell = a * POINTS + b;
            int held = hops[cell];
            if (held == NONE || wayMinutes[way] < wayMinutes[held]) {
                hops[cell] = way;
            }
        }

        /** Fills a table with the least minutes by the P of a set alone. */
        private void spread(int[] table, int points) {
            for (int a = 0; a < POINTS; a++) {
                for (int b = 0; b < POINTS; b++) {
                    boolean both = (points >> a & points >> b & 1) == 1;
                    int straight = a == b ? 0 : hopMinutes(a, b);
                    table[a * POINTS + b] = both ? straight : FAR;
                }
            }
            for (int middle = 0; middle < POINTS; middle++) {
                for (int a = 0; a < POINTS; a++) {
                    int there = table[a * POINTS + middle];
                    for (int b = 0; there < FAR && b < POINTS; b++) {
                        int way = there + table[middle * POINTS + b];
                        table[a * POINTS + b] = Math.min(table[a * POINTS + b], way);
                    }
                }
            }
        }

        /** Fills a table with the least minutes to one of a set of P and on. */
        private void joinBy(int[] table, int middles) {
            for (int a = 0; a < POINTS; a++) {
                for (int b = 0; b < POINTS; b++) {
                    int least = FAR;
                    for (int middle = 0; middle < POINTS; middle++) {
                        if ((middles >> middle & 1) == 1) {
                            least = Math.min(least, near(a, middle) + near(middle, b));
                        }
                    }
                    table[a * POINTS + b] = least;
                }
            }
        }

        private static int at(int[] table, int a, int b) {
            boolean are = a >= 0 && a < POINTS && b >= 0 && b < POINTS;
            return are ? table[a * POINTS + b] : FAR;
        }
    }

    /** All ORDERS told; their rows are made once. */
    private static final class OrderBook {
        private final Orders[] told = new Orders[ORDERS_MOST];
        private int count;

        OrderBook() {
            for (int i = 0; i < ORDERS_MOST; i++) {
                told[i] = new Orders();
            }
        }

        /** The ORDERS in force on a DAY, or null. */
        Orders inForce(int day) {
            Orders best = null;
            for (int i = 0; i < count && i < ORDERS_MOST; i++) {
                if (told[i].day <= day && (best == null || told[i].day >= best.day)) {
                    best = told[i];
                }
            }
            return best;
        }

        int chargeOn(int day, int number) {
            Orders orders = inForce(day);
            return orders == null ? 0 : orders.chargeOf(number);
        }
    }

    /** One text of ORDERS; each e is a row of steps for a stack, closed by STOP_STEP. */
    private static final class Orders {
        private int day;
        private final int[] steps = new int[STEPS_MOST];
        private int stepCount;
        private final int[] classNumbers = new int[CLASS_LINES_MOST];
        private final int[] classStarts = new int[CLASS_LINES_MOST];
        private int classCount;
        private final int[] charges = new int[CLASSES];
        private int hoursFrom;
        private int hoursTo;
        private int grace;
        private int freeStart;
        private int appealStart;
        private final int[] stack = new int[UNITS_MOST + 1];

        void clear(int newDay) {
            day = newDay;
            stepCount = 0;
            classCount = 0;
            Arrays.fill(charges, NONE);
            hoursFrom = NONE;
            hoursTo = NONE;
            grace = NONE;
            freeStart = NONE;
            appealStart = NONE;
        }

        /** STEPS_MOST is beyond what 50 units, each behind seven nots at most, can come to. */
        void addStep(int step) {
            if (stepCount < STEPS_MOST) {
                steps[stepCount] = step;
                stepCount++;
            }
        }

        boolean isInHours(int minute) {
            return hoursTo == NONE || minute >= hoursFrom && minute < hoursTo;
        }

        int chargeOf(int number) {
            return isUnder(number, CLASSES) ? Math.max(charges[number], 0) : 0;
        }

        int classBy(int[] asked) {
            for (int line = 0; line < classCount && line < CLASS_LINES_MOST; line++) {
                if (holds(classStarts[line], asked)) {
                    return classNumbers[line];
                }
            }
            return 0;
        }

        boolean isFree(int[] asked) {
            return holds(freeStart, asked);
        }

        boolean letsOff(int[] asked) {
            return holds(appealStart, asked);
        }

        /** Whether the e whose steps begin at a place holds; there is none at NONE. */
        private boolean holds(int start, int[] asked) {
            if (start < 0) {
                return false;
            }
            int top = 0;
            for (int i = start; i < stepCount && steps[i] != STOP_STEP; i++) {
                int step = steps[i];
                if (isPush(step)) {
                    if (top >= stack.length) {
                        return false;
                    }
                    stack[top] = pushed(step, asked);
                    top++;
                } else if (step == -NOT) {
                    if (top < 1) {
                        return false;
                    }
                    stack[top - 1] = 1 - stack[top - 1];
                } else {
                    if (top < 2) {
                        return false;
                    }
                    top--;
                    stack[top - 1] = joined(step, stack[top - 1], stack[top]);
                }
            }
            return top == 1 && stack[0] == 1;
        }

        private static boolean isPush(int step) {
            return step > UNIT_STEP - ASKED;
        }

        private static int pushed(int step, int[] asked) {
            int unit = UNIT_STEP - step;
            return unit >= 0 && unit < asked.length ? asked[unit] : step;
        }

        private static int joined(int step, int left, int right) {
            switch (-step) {
                case '+': return left + right;
                case '-': return left - right;
                case '<': return left < right ? 1 : 0;
                case '>': return left > right ? 1 : 0;
                case '=': return left == right ? 1 : 0;
                case AND: return left & right;
                case OR: return left | right;
                default: return 0;
            }
        }
    }

    /** Reads a text of ORDERS; what joins or turns is a step of less than 0, its TOKEN's kind. */
    private static final class OrdersReader {
        private final Text text;
        private Orders orders;
        private int line;
        private int units;

        OrdersReader(Text text) {
            this.text = text;
        }

        /** Reads the TOKENS into ORDERS that are clear: whether there was no FAULT. */
        boolean readLines(Orders clear) {
            orders = clear;
            units = 0;
            for (int n = 0; n < TAPE_MOST && text.kind() != END; n++) {
                line = text.kind();
                boolean asks = line == CLASS || line == FREE || line == APPEAL;
                if (!readHead() || asks && !readWhen() || !text.take(';')) {
                    return false;
                }
            }
            return true;
        }

        /** Reads a line up to its when or, without one, up to its end. */
        private boolean readHead() {
            switch (line) {
                case CLASS: return readClass();
                case CHARGE: return readCharge();
                case HOURS: return readHours();
                case FREE: return readFree();
                case GRACE: return readGrace();
                case APPEAL: return readAppeal();
                default: return text.fail(CANT_STAND);
            }
        }

        private boolean readClass() {
            int next = orders.classCount;
            if (next >= CLASS_LINES_MOST) {
                return text.fail(CANT_STAND);
            }
            text.step();
            orders.classStarts[next] = orders.stepCount;
            orders.classNumbers[next] = text.takeNumber(0, CLASSES - 1);
            orders.classCount++;
            return orders.classNumbers[next] != NONE;
        }

        private boolean readCharge() {
            text.step();
            int told = text.value();
            if (text.kind() == NUMBER && isUnder(told, CLASSES) && orders.charges[told] != NONE) {
                return text.fail(CANT_STAND);
            }
            int number = text.takeNumber(0, CLASSES - 1);
            if (number == NONE || !text.take(IS)) {
                return false;
            }
            orders.charges[number] = text.takeNumber(0, CHARGE_MOST);
            return orders.charges[number] != NONE;
        }

        private boolean readHours() {
            if (orders.hoursFrom != NONE) {
                return text.fail(CANT_STAND);
            }
            text.step();
            orders.hoursFrom = text.takeNumber(0, DAY_MINUTES);
            if (orders.hoursFrom == NONE || !text.take(TO)) {
                return false;
            }
            orders.hoursTo = text.takeNumber(orders.hoursFrom + 1, DAY_MINUTES);
            return orders.hoursTo != NONE;
        }

        private boolean readFree() {
            if (orders.freeStart != NONE) {
                return text.fail(CANT_STAND);
            }
            text.step();
            orders.freeStart = orders.stepCount;
            return true;
        }

        private boolean readGrace() {
            if (orders.grace != NONE) {
                return text.fail(CANT_STAND);
            }
            text.step();
            orders.grace = text.takeNumber(0, GRACE_MOST);
            return orders.grace != NONE;
        }

        private boolean readAppeal() {
            if (orders.appealStart != NONE) {
                return text.fail(CANT_STAND);
            }
            text.step();
            orders.appealStart = orders.stepCount;
            return true;
        }

        private boolean readWhen() {
            if (!text.take(WHEN) || !readEither(0)) {
                return false;
            }
            orders.addStep(STOP_STEP);
            return true;
        }

        /** Reads an e; it and readOne call one another, NESTS_MOST times at most. */
        private boolean readEither(int nests) {
            boolean orOpen = false;
            boolean andOpen = false;
            for (int n = 0; n <= UNITS_MOST; n++) {
                if (!readOne(nests)) {
                    return false;
                }
                if (andOpen) {
                    orders.addStep(-AND);
                }
                andOpen = text.kind() == AND;
                if (orOpen && !andOpen) {
                    orders.addStep(-OR);
                }
                if (!andOpen) {
                    orOpen = text.kind() == OR;
                }
                if (!andOpen && !orOpen) {
                    return true;
                }
                text.step();
            }
            return false;
        }

        private boolean readOne(int nests) {
            int nots = 0;
            while (nests + nots < NESTS_MOST && text.kind() == NOT) {
                text.step();
                nots++;
            }
            boolean isNest = text.kind() == NOT || text.kind() == '(';
            if (isNest && nests + nots >= NESTS_MOST) {
                return text.fail(CANT_STAND);
            }
            if (!isNest && !readComparison()) {
                return false;
            }
            if (isNest) {
                text.step();
                if (!readEither(nests + nots + 1) || !text.take(')')) {
                    return false;
                }
            }
            for (int n = 0; n < nots; n++) {
                orders.addStep(-NOT);
            }
            return true;
        }

        /** Reads sum (< | > | =) sum, unit by unit. */
        private boolean readComparison() {
            int compare = 0;
            int join = 0;
            for (int n = 0; n <= UNITS_MOST; n++) {
                if (!readUnit()) {
                    return false;
                }
                if (join != 0) {
                    orders.addStep(-join);
                }
                int sign = text.kind();
                join = sign == '+' || sign == '-' ? sign : 0;
                if (join == 0 && compare != 0) {
                    orders.addStep(-compare);
                    return true;
                }
                if (join == 0) {
                    if (sign != '<' && sign != '>' && sign != '=') {
                        return text.fail(CANT_STAND);
                    }
                    compare = sign;
                }
                text.step();
            }
            return false;
        }

        private boolean readUnit() {
            int kind = text.kind();
            boolean isWord = kind >= FUEL && kind <= CLASS;
            if (!isWord && kind != NUMBER || units >= UNITS_MOST) {
                return text.fail(CANT_STAND);
            }
            if (isWord && !mayAsk(kind)) {
                return text.fail(NOT_TO_ASK);
            }
            units++;
            orders.addStep(isWord ? UNIT_STEP - (kind - FUEL) : text.value());
            text.step();
            return true;
        }

        private boolean mayAsk(int unit) {
            if (unit == MINUTE || unit == ENTRIES) {
                return line == APPEAL;
            }
            return unit != CLASS || line != CLASS;
        }
    }

    /** PLATES, and how like two rows of signs are. */
    private static final class Plates {
        private final long[] signs = new long[PLATES_MOST];
        private final int[] fleets = new int[PLATES_MOST];
        private int count;

        int add(long newSigns, int fleet) {
            if (count >= PLATES_MOST || !isUnder(fleet, FLEETS) || !areSigns(newSigns, false)) {
                return NONE;
            }
            for (int i = 0; i < count; i++) {
                if (signs[i] == newSigns) {
                    return NONE;
                }
            }
            signs[count] = newSigns;
            fleets[count] = fleet;
            count++;
            return count - 1;
        }

        static boolean areSigns(long signs, boolean unseenToo) {
            for (int i = 0; i < SIGNS; i++) {
                int sign = signAt(signs, i);
                boolean isSign = Text.isLetter(sign) || Text.isDigit(sign);
                if (!isSign && !(unseenToo && sign == '?')) {
                    return false;
                }
            }
            return true;
        }

        /** The price by which what was read is LIKE a PLATE, or NOT_LIKE. */
        static int likeness(long read, long plate) {
            int price = 0;
            for (int i = 0; i < SIGNS; i++) {
                int sign = signAt(read, i);
                int real = signAt(plate, i);
                if (sign == real) {
                    continue;
                }
                if (sign != '?' && look(sign) != look(real)) {
                    return NOT_LIKE;
                }
                price++;
            }
            return price <= LIKE_MOST ? price : NOT_LIKE;
        }

        private static int signAt(long signs, int i) {
            return (int) (signs >> 8 * i) & 255;
        }

        /** One sign stands for all that look so. */
        private static int look(int sign) {
            switch (sign) {
                case 'o': return '0';
                case 'i': return '1';
                case 'l': return '1';
                case 'b': return '8';
                case 's': return '5';
                case 'z': return '2';
                case 'v': return 'u';
                default: return sign;
            }
        }
    }

    /** FACTS in the order of telling, and which of them are READINGS of each DAY. */
    private static final class Facts {
        private final int[] kinds = new int[FACTS_MOST];
        private final int[] told = new int[FACTS_MOST];
        private final int[] untold = new int[FACTS_MOST];
        /** The PLATE, of a READING the CAMERA. */
        private final int[] holders = new int[FACTS_MOST];
        private final int[] days = new int[FACTS_MOST];
        /** Of a READING its MINUTE, of PAPERS their four digits. */
        private final int[] details = new int[FACTS_MOST];
        private final long[] signs = new long[FACTS_MOST];
        private int count;
        private int time;
        private final int[] dayReadings = new int[DAYS * DAY_READINGS_MOST];
        private final int[] dayCounts = new int[DAYS];

        int addPapers(int plate, int day, int digits) {
            return add(PAPERS_FACT, plate, day, digits);
        }

        int addAppeal(int plate, int day) {
            return add(APPEAL_FACT, plate, day, 0);
        }

        /** Called for a DAY that has room. */
        int addReading(int camera, int day, int minute, long read) {
            int fact = add(READING_FACT, camera, day, minute);
            if (fact != NONE && hasRoomOn(day)) {
                signs[fact] = read;
                dayReadings[day * DAY_READINGS_MOST + dayCounts[day]] = fact;
                dayCounts[day]++;
            }
            return fact;
        }

        boolean hasRoomOn(int day) {
            return isDay(day) && dayCounts[day] < DAY_READINGS_MOST;
        }

        void dropReadings() {
            for (int fact = 0; fact < count; fact++) {
                if (kinds[fact] == READING_FACT) {
                    kinds[fact] = GONE_FACT;
                }
            }
            Arrays.fill(dayCounts, 0);
        }

        /** A READING that a new MAP took away keeps its number alone: there is no such FACT to take back. */
        boolean takeBack(int fact) {
            if (!isUnder(fact, count) || kinds[fact] == GONE_FACT || untold[fact] != NONE) {
                return false;
            }
            untold[fact] = time;
            return true;
        }

        boolean isReading(int fact) {
            return fact >= 0 && fact < count && kinds[fact] == READING_FACT;
        }

        /** Whether a FACT counts as known at k. */
        boolean counts(int fact, int k) {
            return isUnder(fact, count) && told[fact] <= k
                    && (untold[fact] == NONE || untold[fact] > k);
        }

        int readingsOn(int day) {
            return isDay(day) ? dayCounts[day] : 0;
        }

        /** The n-th READING of a DAY as TOLD, or NONE. */
        int readingOn(int day, int n) {
            boolean is = isDay(day) && n >= 0 && n < dayCounts[day];
            return is ? dayReadings[day * DAY_READINGS_MOST + n] : NONE;
        }

        /** The digits of the PAPERS of a PLATE on a DAY. */
        int papersOn(int plate, int day, int k) {
            int best = NONE;
            for (int fact = 0; fact < count; fact++) {
                boolean fits = kinds[fact] == PAPERS_FACT && holders[fact] == plate
                        && days[fact] <= day && counts(fact, k);
                if (fits && (best == NONE || days[fact] >= days[best])) {
                    best = fact;
                }
            }
            return best == NONE ? 0 : details[best];
        }

        boolean hasAppeal(int plate, int day, int k) {
            for (int fact = 0; fact < count; fact++) {
                if (kinds[fact] == APPEAL_FACT && holders[fact] == plate
                        && days[fact] == day && counts(fact, k)) {
                    return true;
                }
            }
            return false;
        }

        private int add(int kind, int holder, int day, int detail) {
            if (count >= FACTS_MOST) {
                return NONE;
            }
            kinds[count] = kind;
            told[count] = time;
            untold[count] = NONE;
            holders[count] = holder;
            days[count] = day;
            details[count] = detail;
            count++;
            return count - 1;
        }
    }

    /** WHOSE the READINGS are; a DAY's choice is kept until something about it may be other. */
    private static final class Owners {
        private final Town town;
        private final Plates plates;
        private final Facts facts;
        private int stamp;
        private final int[] stamps = new int[DAYS];
        private final int[] knownAt = new int[DAYS];
        private final int[] prices = new int[DAYS];
        private final int[] ownerOfFact = new int[FACTS_MOST];
        private final int[] readings = new int[DAY_READINGS_MOST];
        private int count;
        private final int[] shares = new int[DAY_READINGS_MOST];
        private final boolean[] byOne = new boolean[READING_SETS];
        private final int[] worth = new int[READING_SETS];
        private final int[] plateWorth = new int[READING_SETS];

        Owners(Town town, Plates plates, Facts facts) {
            this.town = town;
            this.plates = plates;
            this.facts = facts;
            forget();
        }

        void forget() {
            stamp++;
        }

        void chooseUpTo(int day, int k) {
            for (int d = 0; d <= day && d < DAYS; d++) {
                choose(d, k);
            }
        }

        /** The PLATE that a READING is of, by the latest choice for its DAY, or NONE. */
        int chosenOwner(int reading) {
            return facts.isReading(reading) ? ownerOfFact[reading] : NONE;
        }

        int priceOf(int day, int k) {
            choose(day, k);
            return isDay(day) ? prices[day] : 0;
        }

        boolean twoBear(int plate, int day, int k) {
            gather(day, k);
            for (int i = 0; i < count; i++) {
                for (int j = 0; j < i; j++) {
                    if (isExactly(readings[i], plate) && isExactly(readings[j], plate)
                            && !canBeOne(readings[i], readings[j])) {
                        return true;
                    }
                }
            }
            return false;
        }

        /** INSIDE of a PLATE on a DAY. */
        int stay(int plate, int day, boolean most, int k) {
            choose(day, k);
            gatherOf(plate, day);
            int sum = 0;
            for (int i = 1; i < count; i++) {
                sum += stayBetween(readings[i - 1], readings[i], most);
            }
            return sum;
        }

        int pointOf(int reading) {
            return facts.isReading(reading) ? town.pointOf(facts.holders[reading]) : NONE;
        }

        boolean isInZone(int reading) {
            int point = pointOf(reading);
            return point != NONE && town.isZone(point);
        }

        /**
         * Of all choices the least worth: sets of READINGS are dealt to PLATES one after another.
         * The digits behind the price stand as TOLD, so that of like prices the first one is less.
         */
        void choose(int day, int k) {
            if (!isDay(day) || stamps[day] == stamp && knownAt[day] == k) {
                return;
            }
            stamps[day] = stamp;
            knownAt[day] = k;
            gather(day, k);
            markSetsByOne();
            giveAllToNobody();
            for (int plate = 0; plate < plates.count; plate++) {
                offer(plate);
            }
            settle(day);
        }

        private void gather(int day, int k) {
            count = 0;
            for (int n = 0; n < facts.readingsOn(day); n++) {
                int reading = facts.readingOn(day, n);
                if (facts.counts(reading, k) && count < DAY_READINGS_MOST) {
                    readings[count] = reading;
                    count++;
                }
            }
        }

        /** READINGS of a PLATE on a DAY that is chosen, by MINUTES, of like ones as TOLD. */
        private void gatherOf(int plate, int day) {
            count = 0;
            for (int n = 0; n < facts.readingsOn(day); n++) {
                int reading = facts.readingOn(day, n);
                if (chosenOwner(reading) != plate || count >= DAY_READINGS_MOST) {
                    continue;
                }
                int place = count;
                while (place > 0 && minuteOf(readings[place - 1]) > minuteOf(reading)) {
                    readings[place] = readings[place - 1];
                    place--;
                }
                readings[place] = reading;
                count++;
            }
        }

        private void markSetsByOne() {
            byOne[0] = true;
            for (int set = 1; set < 1 << count; set++) {
                int first = Integer.numberOfTrailingZeros(set);
                int rest = set & set - 1;
                boolean fits = byOne[rest];
                for (int other = first + 1; fits && other < count; other++) {
                    fits = (rest >> other & 1) == 0 || canBeOne(readings[first], readings[other]);
                }
                byOne[set] = fits;
            }
        }

        private void giveAllToNobody() {
            worth[0] = 0;
            for (int set = 1; set < 1 << count; set++) {
                int first = Integer.numberOfTrailingZeros(set);
                worth[set] = worth[set & set - 1] + share(first, NOBODY, NOBODY_PRICE);
            }
        }

        private void offer(int plate) {
            int liked = shareOut(plate);
            if (liked == 0) {
                return;
            }
            // From the fullest set down: what is left for others is then still without this PLATE.
            for (int set = (1 << count) - 1; set > 0; set--) {
                int best = worth[set];
                for (int mine = set & liked; mine > 0; mine = mine - 1 & set & liked) {
                    if (byOne[mine]) {
                        best = Math.min(best, worth[set ^ mine] + plateWorth[mine]);
                    }
                }
                worth[set] = best;
            }
        }

        /** Sets the worth of each set of READINGS LIKE a PLATE: those READINGS. */
        private int shareOut(int plate) {
            int liked = 0;
            for (int i = 0; i < count; i++) {
                int price = Plates.likeness(facts.signs[readings[i]], plates.signs[plate]);
                if (price != NOT_LIKE) {
                    liked |= 1 << i;
                    shares[i] = share(i, plate, price);
                }
            }
            plateWorth[0] = 0;
            for (int set = 1; set < 1 << count; set++) {
                if ((set & ~liked) == 0) {
                    int first = Integer.numberOfTrailingZeros(set);
                    plateWorth[set] = plateWorth[set & set - 1] + shares[first];
                }
            }
            return liked;
        }

        private int share(int i, int owner, int price) {
            return price * PRICE_WORTH + owner * DIGIT_WORTH[count - 1 - i];
        }

        private void settle(int day) {
            int best = worth[(1 << count) - 1];
            prices[day] = best / PRICE_WORTH;
            int digits = best % PRICE_WORTH;
            for (int n = 0; n < facts.readingsOn(day); n++) {
                ownerOfFact[facts.readingOn(day, n)] = NONE;
            }
            for (int i = count - 1; i >= 0; i--) {
                int owner = digits % DIGIT;
                ownerOfFact[readings[i]] = owner == NOBODY ? NONE : owner;
                digits /= DIGIT;
            }
        }

        private boolean isExactly(int reading, int plate) {
            return Plates.likeness(facts.signs[reading], plates.signs[plate]) == 0;
        }

        private boolean canBeOne(int a, int b) {
            return Math.abs(minuteOf(a) - minuteOf(b)) >= town.near(pointOf(a), pointOf(b));
        }

        private int minuteOf(int reading) {
            return facts.details[reading];
        }

        private int stayBetween(int one, int next, boolean most) {
            int gap = minuteOf(next) - minuteOf(one);
            int a = pointOf(one);
            int b = pointOf(next);
            if (isInZone(one) && isInZone(next)) {
                return most ? gap : Math.min(gap, town.byOutside(a, b));
            }
            if (!most) {
                return 0;
            }
            if (isInZone(one) || isInZone(next)) {
                return gap;
            }
            return Math.max(0, gap - town.byZone(a, b));
        }
    }

    /** CLASSES, ENTRIES and CHARGES; whose the READINGS are is chosen before it is asked. */
    private static final class Ledger {
        private final OrderBook book;
        private final Facts facts;
        private final Plates plates;
        private final Owners owners;
        private final int[] asked = new int[ASKED];

        Ledger(OrderBook book, Facts facts, Plates plates, Owners owners) {
            this.book = book;
            this.facts = facts;
            this.plates = plates;
            this.owners = owners;
        }

        int classOn(int plate, int day, int k) {
            Orders orders = book.inForce(day);
            if (orders == null) {
                return 0;
            }
            ask(plate, day, k);
            return orders.classBy(asked);
        }

        int entriesAhead(int plate, int day) {
            int sum = 0;
            for (int d = 0; d < day; d++) {
                if (entryMinute(plate, d) != NONE) {
                    sum++;
                }
            }
            return sum;
        }

        int fleetSum(int fleet, int from, int to, int k) {
            int sum = 0;
            for (int plate = 0; plate < plates.count; plate++) {
                if (plates.fleets[plate] == fleet) {
                    sum += sumOf(plate, from, to, k);
                }
            }
            return sum;
        }

        /** All CHARGES of a PLATE from a DAY to another one; ENTRIES are counted on the way. */
        int sumOf(int plate, int from, int to, int k) {
            int sum = 0;
            int entered = 0;
            for (int day = 0; day <= to; day++) {
                int minute = entryMinute(plate, day);
                if (minute == NONE) {
                    continue;
                }
                if (day >= from) {
                    ask(plate, day, k);
                    asked[MINUTE - FUEL] = minute;
                    asked[ENTRIES - FUEL] = entered;
                    sum += chargeDue(plate, day, k);
                }
                entered++;
            }
            return sum;
        }

        /** The CHARGE of a PLATE that ENTERS on a DAY, all but its CLASS being asked for. */
        private int chargeDue(int plate, int day, int k) {
            Orders orders = book.inForce(day);
            if (orders == null) {
                return 0;
            }
            int number = orders.classBy(asked);
            asked[CLASS - FUEL] = number;
            if (orders.isFree(asked) || asked[ENTRIES - FUEL] < orders.grace) {
                return 0;
            }
            if (facts.hasAppeal(plate, day, k) && orders.letsOff(asked)) {
                return 0;
            }
            return orders.chargeOf(number);
        }

        /** The first MINUTE at which a PLATE was in the zone in hours on a DAY, or NONE. */
        private int entryMinute(int plate, int day) {
            Orders orders = book.inForce(day);
            int first = NONE;
            if (orders == null) {
                return NONE;
            }
            for (int n = 0; n < facts.readingsOn(day); n++) {
                int reading = facts.readingOn(day, n);
                int minute = facts.details[reading];
                boolean counts = owners.isInZone(reading) && orders.isInHours(minute)
                        && owners.chosenOwner(reading) == plate;
                if (counts && (first == NONE || minute < first)) {
                    first = minute;
                }
            }
            return first;
        }

        private void ask(int plate, int day, int k) {
            int digits = facts.papersOn(plate, day, k);
            asked[0] = digits / 1000;
            asked[NORM - FUEL] = digits / 100 % 10;
            asked[KIND - FUEL] = digits / 10 % 10;
            asked[HOME - FUEL] = digits % 10;
            asked[DAY - FUEL] = day;
        }
    }

    /** Values of AIR by site and DAY, and the GAINS of pairs of DAYS. */
    private static final class Air {
        private final int[] values = new int[SITES * DAYS];
        private final int[] winds = new int[SITES * DAYS];
        private int count;
        private final int[] gains = new int[PAIRS_MOST];
        private int pairs;

        Air() {
            Arrays.fill(winds, NONE);
        }

        int add(int site, int day, int wind, int value) {
            int cell = site * DAYS + day;
            if (count >= AIR_MOST || !isUnder(cell, SITES * DAYS) || winds[cell] != NONE) {
                return NONE;
            }
            values[cell] = value;
            winds[cell] = wind;
            count++;
            return count;
        }

        int gainFrom(int day) {
            pairUp(day);
            return sumOfGains();
        }

        int waysFrom(int day) {
            pairUp(day);
            return 1 << pairs;
        }

        /** DOUBT; from each way to turn signs to the next one a single sign turns. */
        int waysAsGood(int day) {
            pairUp(day);
            int sum = sumOfGains();
            int size = Math.abs(sum);
            int turned = 0;
            int good = 1;
            for (int way = 1; way < 1 << pairs; way++) {
                int sign = Integer.numberOfTrailingZeros(way);
                boolean wasTurned = (turned >> sign & 1) == 1;
                sum += wasTurned ? 2 * gains[sign] : -2 * gains[sign];
                turned ^= 1 << sign;
                if (Math.abs(sum) >= size) {
                    good++;
                }
            }
            return good;
        }

        private int sumOfGains() {
            int sum = 0;
            for (int i = 0; i < pairs; i++) {
                sum += gains[i];
            }
            return sum;
        }

        private void pairUp(int day) {
            pairs = 0;
            for (int wind = 0; wind < WINDS; wind++) {
                int before = dayWith(wind, 0, day);
                int behind = dayWith(wind, day, DAYS);
                while (before < day && behind < DAYS && pairs < PAIRS_MOST) {
                    gains[pairs] = difference(before) - difference(behind);
                    pairs++;
                    before = dayWith(wind, before + 1, day);
                    behind = dayWith(wind, behind + 1, DAYS);
                }
            }
        }

        /** The first DAY from one on on which both sites had a wind; the bound if there is none. */
        private int dayWith(int wind, int from, int bound) {
            for (int day = from; day < bound && day < DAYS; day++) {
                if (winds[day] == wind && winds[DAYS + day] == wind) {
                    return day;
                }
            }
            return bound;
        }

        private int difference(int day) {
            return isDay(day) ? values[day] - values[DAYS + day] : 0;
        }
    }

    /** TRIPS, the route of the one followed last, and the best new CAMERAS. */
    private static final class Trips {
        private final Town town;
        private final OrderBook book;
        private final int[] starts = new int[TRIPS_MOST];
        private final int[] goals = new int[TRIPS_MOST];
        private final int[] cars = new int[TRIPS_MOST];
        private final int[] coins = new int[TRIPS_MOST];
        private final int[] classes = new int[TRIPS_MOST];
        private int count;
        private final int[] route = new int[POINTS];
        private int routeLength;
        private int routePoints;
        private int routeMinutes;
        private final int[] unseen = new int[TRIPS_MOST];
        private int bestSet;
        private int bestSeen;

        Trips(Town town, OrderBook book) {
            this.town = town;
            this.book = book;
        }

        int add(int from, int to, int newCars, int value, int number) {
            if (count >= TRIPS_MOST) {
                return NONE;
            }
            starts[count] = from;
            goals[count] = to;
            cars[count] = newCars;
            coins[count] = value;
            classes[count] = number;
            count++;
            return count - 1;
        }

        /** Finds the route of a TRIP; without the zone it is as if all were paid from the start. */
        void follow(int trip, int day, boolean zone) {
            int here = starts[trip];
            int charge = zone ? book.chargeOn(day, classes[trip]) : 0;
            boolean paid = !zone || town.isZone(here);
            routeLength = 0;
            routePoints = 0;
            routeMinutes = 0;
            visit(here);
            for (int n = 1; n < POINTS && here != goals[trip]; n++) {
                int next = nextPoint(trip, here, paid, charge);
                if (next == NONE) {
                    return;
                }
                routeMinutes += town.hopMinutes(here, next);
                visit(next);
                paid = paid || town.isZone(next);
                here = next;
            }
        }

        int carsOn(int way, int day, boolean zone) {
            int sum = 0;
            for (int trip = 0; trip < count; trip++) {
                follow(trip, day, zone);
                for (int n = 1; n < routeLength; n++) {
                    if (town.hop(route[n - 1], route[n]) == way) {
                        sum += cars[trip];
                    }
                }
            }
            return sum;
        }

        int carsAround(int day) {
            int sum = 0;
            for (int trip = 0; trip < count; trip++) {
                follow(trip, day, false);
                boolean wouldTouch = (routePoints & town.zonePoints) != 0;
                follow(trip, day, true);
                if (wouldTouch && (routePoints & town.zonePoints) == 0) {
                    sum += cars[trip];
                }
            }
            return sum;
        }

        /** VIEW; sets are tried from the least number on, so that of like ones the first stays. */
        void placeCameras(int day, int most) {
            for (int trip = 0; trip < count; trip++) {
                follow(trip, day, true);
                unseen[trip] = (routePoints & town.cameraPoints) == 0 ? routePoints : 0;
            }
            bestSet = 0;
            bestSeen = 0;
            for (int set = 1; set <= ALL_POINTS; set++) {
                if (Integer.bitCount(set) > most || (set & town.cameraPoints) != 0) {
                    continue;
                }
                int carsSeen = carsMeeting(set);
                boolean fewer = Integer.bitCount(set) < Integer.bitCount(bestSet);
                if (carsSeen > bestSeen || carsSeen == bestSeen && fewer) {
                    bestSet = set;
                    bestSeen = carsSeen;
                }
            }
        }

        private int carsMeeting(int set) {
            int sum = 0;
            for (int trip = 0; trip < count; trip++) {
                if ((unseen[trip] & set) != 0) {
                    sum += cars[trip];
                }
            }
            return sum;
        }

        private void visit(int point) {
            if (routeLength < POINTS) {
                route[routeLength] = point;
                routeLength++;
                routePoints |= 1 << point;
            }
        }

        /** The first P by number from which what is left to pay comes to the least there is. */
        private int nextPoint(int trip, int here, boolean paid, int charge) {
            int least = costLeft(trip, here, paid, charge);
            for (int next = 0; next < POINTS; next++) {
                if (town.hop(here, next) == NONE) {
                    continue;
                }
                boolean paidThere = paid || town.isZone(next);
                int step = town.hopMinutes(here, next) * coins[trip];
                int due = paidThere && !paid ? charge : 0;
                if (step + due + costLeft(trip, next, paidThere, charge) == least) {
                    return next;
                }
            }
            return NONE;
        }

        private int costLeft(int trip, int here, boolean paid, int charge) {
            int value = coins[trip];
            int goal = goals[trip];
            if (paid) {
                return town.near(here, goal) * value;
            }
            int around = town.beside(here, goal) * value;
            return Math.min(around, town.byZone(here, goal) * value + charge);
        }
    }
}
