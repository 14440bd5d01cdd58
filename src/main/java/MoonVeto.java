/**
 * The moon's veto: acts of a council hold unless the moon is seen full within so many days.
 * What each call answers is told in the document (DOC.md), by numbered promises.
 */
public final class MoonVeto {
    public static final int UNKNOWN = -1, OUTSIDE = -2, STATE = -3, FULL = -4, NONE = -9;
    public static final long LOST = Long.MIN_VALUE;

    private static final int NO_FAULT = 0, NULL_FAULT = 1, CAST_FAULT = 2, INDEX_FAULT = 3, SIZE_FAULT = 4;
    private static final int FAULT_ANSWER = -10, TEXT_ANSWER = -100;

    private static final int PLAIN = 0, SUNSET = 1, REPEAL = 2, LAST_KIND = 2;
    private static final int MOST_BILLS = 6, NO_BILL = 6;
    private static final int LAST_DAY = 109, LAST_MOVE = 99, LAST_ORIGIN = 29, LAST_SPAN = 9;
    private static final int LAST_MOON = 99;
    /** Months have 10 days at least, so days 0 .. 109 see no more full moons than these. */
    private static final int MOST_MOONS = 11;
    /** Days 0 .. 109 go into two sets of so many bits each. */
    private static final int HALF = 55;
    private static final int MOST_READINGS = 8;

    private static final int SHEETS = 4, MOST_CELLS = 60, LAST_LANE = 2, NOTHING = -1;
    private static final int WORTH_BASE = 1000;

    private final Council council;
    private final Readings readings;
    private final Sheet[] sheets;
    private int traced;
    private int latestFault;

    public MoonVeto() {
        council = new Council();
        readings = new Readings();
        sheets = new Sheet[SHEETS];
        for (int k = 0; k < SHEETS; k++) {
            sheets[k] = new Sheet();
        }
    }

    // ---- 1 the council

    public int council(int sheet, int lane, int i, int n) {
        latestFault = NO_FAULT;
        if (noSheet(sheet)) {
            return UNKNOWN;
        }
        if (!within(lane, LAST_LANE)) {
            return OUTSIDE;
        }
        Sheet text = sheets[sheet];
        int fault = text.faultOfCells(lane, i, n);
        if (fault != NO_FAULT) {
            return failed(fault);
        }
        int place = Text.firstFault(text, i, n);
        if (place != NONE) {
            return TEXT_ANSWER - place;
        }
        council.found(text, i, n);
        readings.count = 0;
        return council.count;
    }

    public int ofBill(int b, int what) {
        if (noBill(b)) {
            return UNKNOWN;
        }
        Bill bill = council.bills[b];
        switch (what) {
            case 0: return bill.kind;
            case 1: return bill.day;
            case 2: return bill.needs;
            case 3: return bill.names;
            case 4: return bill.lasts;
            default: return OUTSIDE;
        }
    }

    public int moon(int n) {
        if (!within(n, LAST_MOON)) {
            return OUTSIDE;
        }
        if (noCouncil()) {
            return STATE;
        }
        return council.sky.dayOfMoon(n);
    }

    public int span(int v) {
        if (!within(v, LAST_SPAN)) {
            return OUTSIDE;
        }
        if (noCouncil()) {
            return STATE;
        }
        int was = council.watch;
        council.watch = v;
        return was;
    }

    public int move(int b, int day) {
        if (noBill(b)) {
            return UNKNOWN;
        }
        if (!within(day, LAST_MOVE)) {
            return OUTSIDE;
        }
        int was = council.bills[b].day;
        council.bills[b].day = day;
        return was;
    }

    public int cloud(int day, boolean is) {
        if (!within(day, LAST_DAY)) {
            return OUTSIDE;
        }
        if (noCouncil()) {
            return STATE;
        }
        return council.sky.cover(day, is) ? 1 : 0;
    }

    // ---- 2 days

    public int struck(int b) {
        if (noBill(b)) {
            return UNKNOWN;
        }
        council.settle();
        int seen = council.bills[b].moons & ~council.sky.cloudedMoons();
        return seen == 0 ? NONE : council.sky.dayOfMoon(Integer.numberOfTrailingZeros(seen));
    }

    public int passing() {
        if (noCouncil()) {
            return STATE;
        }
        council.settle();
        return council.passes;
    }

    public int force(int day) {
        if (!within(day, LAST_DAY)) {
            return OUTSIDE;
        }
        if (noCouncil()) {
            return STATE;
        }
        council.settle();
        return council.allInForce(day);
    }

    public int holds(int b) {
        if (noBill(b)) {
            return UNKNOWN;
        }
        council.settle();
        return council.daysHeld(b);
    }

    public int chronicle(int sheet, int lane, int i, int n) {
        latestFault = NO_FAULT;
        if (noSheet(sheet)) {
            return UNKNOWN;
        }
        if (!within(lane, LAST_LANE)) {
            return OUTSIDE;
        }
        Sheet told = sheets[sheet];
        int fault = told.faultOfCells(lane, i, n);
        if (fault != NO_FAULT) {
            return failed(fault);
        }
        if (noCouncil()) {
            return STATE;
        }
        council.settle();
        for (int day = 0; day < n; day++) {
            if (told.cells[i + day] != council.allInForce(day)) {
                return day;
            }
        }
        return NONE;
    }

    // ---- 3 clouds, days to move

    public int buy(int b, int day) {
        if (noBill(b)) {
            return UNKNOWN;
        }
        if (!within(day, LAST_DAY)) {
            return OUTSIDE;
        }
        return Trials.fewestClouds(council, b, day);
    }

    public int when(int b, int day) {
        if (noBill(b)) {
            return UNKNOWN;
        }
        if (!within(day, LAST_DAY)) {
            return OUTSIDE;
        }
        return Trials.firstMove(council, b, day);
    }

    public int longest(int b, int what) {
        if (noBill(b)) {
            return UNKNOWN;
        }
        if (!within(what, 1)) {
            return OUTSIDE;
        }
        return Trials.longestMove(council, b, what == 1);
    }

    public int worth(int b) {
        if (noBill(b)) {
            return UNKNOWN;
        }
        return Trials.gainOfOthers(council, b) + WORTH_BASE;
    }

    // ---- 4 what was in force

    public int reading(int b, int day, boolean was) {
        if (noBill(b)) {
            return UNKNOWN;
        }
        if (!within(day, LAST_DAY)) {
            return OUTSIDE;
        }
        if (readings.count >= MOST_READINGS) {
            return FULL;
        }
        return readings.append(b, day, was);
    }

    public int back(int k) {
        if (!within(k, readings.count)) {
            return OUTSIDE;
        }
        readings.count -= k;
        return readings.count;
    }

    public int spans() {
        if (noCouncil()) {
            return STATE;
        }
        return Trials.possibleSpans(council, readings);
    }

    public int origins() {
        if (noCouncil()) {
            return STATE;
        }
        return Trials.possibleOrigins(council, readings);
    }

    public int kinds(int b) {
        if (noBill(b)) {
            return UNKNOWN;
        }
        return Trials.possibleKinds(council, readings, b);
    }

    public int moved(int b, int what) {
        if (noBill(b)) {
            return UNKNOWN;
        }
        if (!within(what, 1)) {
            return OUTSIDE;
        }
        return Trials.possibleMoves(council, readings, b, what == 1);
    }

    public long odds(int b, int day, int which) {
        if (noBill(b) || !within(day, LAST_DAY) || !within(which, 1)) {
            return LOST;
        }
        return Trials.shareOfClouds(council, b, day, which == 1);
    }

    // ---- 5 sheets, parts

    public int sheet(int k, int lane, int n) {
        latestFault = NO_FAULT;
        if (noSheet(k)) {
            return UNKNOWN;
        }
        if (!within(lane, LAST_LANE) || n > MOST_CELLS) {
            return OUTSIDE;
        }
        if (n < 0) {
            return failed(SIZE_FAULT);
        }
        sheets[k].begin(lane, n);
        return 1;
    }

    public int lose(int k) {
        if (noSheet(k)) {
            return UNKNOWN;
        }
        int had = sheets[k].isNothing() ? 0 : 1;
        sheets[k].drop();
        return had;
    }

    public int put(int k, int i, int v) {
        latestFault = NO_FAULT;
        if (noSheet(k)) {
            return UNKNOWN;
        }
        Sheet row = sheets[k];
        if (row.isNothing()) {
            return failed(NULL_FAULT);
        }
        if (!row.has(i)) {
            return failed(INDEX_FAULT);
        }
        row.cells[i] = row.cut(v);
        return 1;
    }

    public long cell(int k, int i, int lane) {
        latestFault = NO_FAULT;
        if (noSheet(k) || !within(lane, LAST_LANE)) {
            return LOST;
        }
        Sheet row = sheets[k];
        latestFault = row.faultOfLane(lane);
        if (latestFault == NO_FAULT && !row.has(i)) {
            latestFault = INDEX_FAULT;
        }
        return latestFault == NO_FAULT ? row.cells[i] : LOST;
    }

    public int copy(int k, int i, int other, int j, int n) {
        latestFault = NO_FAULT;
        if (noSheet(k) || noSheet(other)) {
            return UNKNOWN;
        }
        Sheet from = sheets[k];
        Sheet to = sheets[other];
        if (from.isNothing() || to.isNothing()) {
            return failed(NULL_FAULT);
        }
        if (from.lane != to.lane) {
            return failed(CAST_FAULT);
        }
        if (n < 0 || !from.hasAll(i, n) || !to.hasAll(j, n)) {
            return failed(INDEX_FAULT);
        }
        System.arraycopy(from.cells, i, to.cells, j, n);
        return n;
    }

    public int tell(int b) {
        if (noBill(b)) {
            return UNKNOWN;
        }
        Bill bill = council.bills[b];
        switch (bill.kind) {
            case SUNSET: return sunsetBody(bill);
            case REPEAL: return repealBody(bill);
            default: return billBody(bill);
        }
    }

    public int seal(int b) {
        if (noBill(b)) {
            return UNKNOWN;
        }
        return council.bills[b].kind == REPEAL ? ownSeal() : lentSeal(b);
    }

    public int as(int b, int kind) {
        latestFault = NO_FAULT;
        if (noBill(b)) {
            return UNKNOWN;
        }
        if (!within(kind, LAST_KIND)) {
            return OUTSIDE;
        }
        // Each kind is one of the kinds below it, too.
        return council.bills[b].kind < kind ? failed(CAST_FAULT) : 1;
    }

    public int trace() {
        return traced;
    }

    public int fault() {
        return latestFault;
    }

    public int many(int what) {
        switch (what) {
            case 0: return council.count;
            case 1: return council.sky.begins;
            case 2: return council.watch;
            case 3: return readings.count;
            case 4: return council.sky.cloudedNights;
            default: return OUTSIDE;
        }
    }

    private static boolean within(int v, int last) {
        return v >= 0 && v <= last;
    }

    private static boolean noSheet(int k) {
        return !within(k, SHEETS - 1);
    }

    private boolean noBill(int b) {
        return !within(b, council.count - 1);
    }

    private boolean noCouncil() {
        return council.count == 0;
    }

    private int failed(int fault) {
        latestFault = fault;
        return FAULT_ANSWER - fault;
    }

    private void leave(int number) {
        traced = 31 * traced + number;
    }

    private int billBody(Bill bill) {
        leave(1);
        return bill.lasts;
    }

    private int sunsetBody(Bill bill) {
        leave(2);
        return billBody(bill) + 100;
    }

    private int repealBody(Bill bill) {
        leave(3);
        int bySunset = sunsetBody(bill);
        return bySunset + billBody(bill);
    }

    private int lentSeal(int b) {
        leave(4);
        return b;
    }

    private int ownSeal() {
        leave(5);
        return 40;
    }

    /** A row of numbers of a lane, or nothing; its cells are made once and used for every row it gets. */
    private static final class Sheet {
        private final int[] cells = new int[MOST_CELLS];
        private int lane = NOTHING;
        private int length;

        private void begin(int newLane, int n) {
            lane = newLane;
            length = n;
            for (int i = 0; i < MOST_CELLS; i++) {
                cells[i] = 0;
            }
        }

        private void drop() {
            lane = NOTHING;
            length = 0;
        }

        private boolean isNothing() {
            return lane == NOTHING;
        }

        private boolean has(int i) {
            return i >= 0 && i < length;
        }

        /** For n of 0 or more; length - i does not wrap once i is known to be within. */
        private boolean hasAll(int i, int n) {
            return within(i, length) && n <= length - i;
        }

        private int cut(int v) {
            if (lane == 0) {
                return (byte) v;
            }
            return lane == 1 ? (short) v : v;
        }

        private int faultOfLane(int asLane) {
            if (isNothing()) {
                return NULL_FAULT;
            }
            return lane == asLane ? NO_FAULT : CAST_FAULT;
        }

        private int faultOfCells(int asLane, int i, int n) {
            int fault = faultOfLane(asLane);
            if (fault != NO_FAULT) {
                return fault;
            }
            if (n < 0) {
                return SIZE_FAULT;
            }
            return hasAll(i, n) ? NO_FAULT : INDEX_FAULT;
        }
    }

    /** The form of a council's text: seven codes of a head, then seven codes for each bill. */
    private static final class Text {
        private static final int PART = 7;
        private static final String LEAST = "m002010;b00001", MOST = "m296929;s99669";
        private static final int UPPER_ENDS = 4, LETTER = 1;

        private static int firstFault(Sheet text, int i, int n) {
            for (int place = 0; place < n; place++) {
                int before = place == 0 ? 0 : text.cells[i + place - 1];
                if (!fits(place, text.cells[i + place], before)) {
                    return place;
                }
            }
            boolean whole = n >= 2 * PART && n % PART == 0;
            return whole ? NONE : n;
        }

        private static boolean fits(int place, int code, int before) {
            if (place >= PART * (1 + MOST_BILLS)) {
                return false;
            }
            if (place >= PART && place % PART == LETTER) {
                return kindOf(code) != NONE;
            }
            // UPPER goes to 60 alone, so a 6 is followed by a 0.
            if (place == UPPER_ENDS && before == '6') {
                return code == '0';
            }
            int form = place < PART ? place : PART + place % PART;
            return code >= LEAST.charAt(form) && code <= MOST.charAt(form);
        }

        private static int kindOf(int code) {
            switch (code) {
                case 'b': return PLAIN;
                case 's': return SUNSET;
                case 'r': return REPEAL;
                default: return NONE;
            }
        }

        private static int digit(Sheet text, int i) {
            return text.has(i) ? text.cells[i] - '0' : 0;
        }

        private static int twoDigits(Sheet text, int i) {
            return 10 * digit(text, i) + digit(text, i + 1);
        }
    }

    /** What is told of one bill, and the full moons that watch it. */
    private static final class Bill {
        private int kind;
        private int day;
        private int needs;
        private int names;
        private int lasts;
        private int moons;

        private void read(Sheet text, int i) {
            kind = text.has(i + 1) ? Text.kindOf(text.cells[i + 1]) : PLAIN;
            day = Text.twoDigits(text, i + 2);
            needs = Text.digit(text, i + 4);
            names = Text.digit(text, i + 5);
            lasts = Text.digit(text, i + 6);
        }

        /** The days of a half on which it would be in force if it passes and no repeal is there. */
        private long term(int half) {
            int base = half * HALF;
            int first = Math.max(day + 1, base);
            int last = base + HALF - 1;
            if (kind == SUNSET) {
                last = Math.min(day + 10 * lasts, last);
            }
            int length = last - first + 1;
            return length <= 0 ? 0L : ((1L << length) - 1L) << (first - base);
        }
    }

    /** The calendar of full moons, and the nights that are clouded. */
    private static final class Sky {
        private final boolean[] clouded = new boolean[LAST_DAY + 1];
        private int cloudedNights;
        private int begins;
        private int upper;
        private int lower;

        private void read(Sheet text, int i) {
            begins = Text.twoDigits(text, i + 1);
            upper = Text.twoDigits(text, i + 3);
            lower = Text.digit(text, i + 5);
            cloudedNights = 0;
            for (int day = 0; day <= LAST_DAY; day++) {
                clouded[day] = false;
            }
        }

        private boolean cover(int day, boolean is) {
            if (clouded[day] == is) {
                return false;
            }
            clouded[day] = is;
            cloudedNights += is ? 1 : -1;
            return true;
        }

        private int dayOfMoon(int n) {
            int months = n * upper;
            return begins + (lower == 2 ? months / 2 : months);
        }

        private int moonsWithin(int from, int to) {
            int moons = 0;
            for (int n = 0; n < MOST_MOONS; n++) {
                int day = dayOfMoon(n);
                if (day > to) {
                    break;
                }
                if (day >= from) {
                    moons |= 1 << n;
                }
            }
            return moons;
        }

        private int cloudedMoons() {
            int moons = 0;
            for (int n = 0; n < MOST_MOONS; n++) {
                int day = dayOfMoon(n);
                if (day > LAST_DAY) {
                    break;
                }
                if (clouded[day]) {
                    moons |= 1 << n;
                }
            }
            return moons;
        }
    }

    /** The bills, what passes of them and when each is in force; without bills there is no council. */
    private static final class Council {
        private final Sky sky = new Sky();
        private final Bill[] bills = new Bill[MOST_BILLS];
        private int count;
        private int watch;
        private int passes;

        private Council() {
            for (int b = 0; b < MOST_BILLS; b++) {
                bills[b] = new Bill();
            }
        }

        /** Of a text without a fault. */
        private void found(Sheet text, int i, int n) {
            sky.read(text, i);
            watch = Text.digit(text, i + 6);
            count = Math.min(n / Text.PART - 1, MOST_BILLS);
            for (int b = 0; b < count; b++) {
                bills[b].read(text, i + Text.PART * (b + 1));
            }
        }

        private void settle() {
            watchAll();
            pass(sky.cloudedMoons(), NO_BILL);
        }

        private void watchAll() {
            for (int b = 0; b < count; b++) {
                Bill bill = bills[b];
                bill.moons = sky.moonsWithin(bill.day, bill.day + watch);
            }
        }

        private int allMoons() {
            int moons = 0;
            for (int b = 0; b < count; b++) {
                moons |= bills[b].moons;
            }
            return moons;
        }

        /**
         * By the order of days: what a bill needs is in force by bills of earlier days alone, so those
         * that are not come to yet, which count as not passed, make no difference.
         */
        private void pass(int cloudedMoons, int doomed) {
            passes = 0;
            int come = 0;
            for (int round = 0; round < count; round++) {
                int b = earliestBut(come);
                come |= 1 << b;
                Bill bill = bills[b];
                boolean isStruck = b == doomed || (bill.moons & ~cloudedMoons) != 0;
                boolean hasItsNeed = bill.needs == NO_BILL
                        || bill.needs < count && isInForce(bill.needs, bill.day);
                if (!isStruck && hasItsNeed) {
                    passes |= 1 << b;
                }
            }
        }

        private int earliestBut(int come) {
            int first = 0;
            int least = LAST_DAY + 1;
            for (int b = 0; b < count; b++) {
                if ((come >> b & 1) == 0 && bills[b].day < least) {
                    first = b;
                    least = bills[b].day;
                }
            }
            return first;
        }

        private boolean isLater(int r, int b) {
            int apart = bills[r].day - bills[b].day;
            return apart > 0 || apart == 0 && r > b;
        }

        /** Each step goes to a later bill, so there are no more levels than bills. */
        private long daysInForce(int b, int half, int depth) {
            if ((passes >> b & 1) == 0 || depth > MOST_BILLS) {
                return 0L;
            }
            long days = bills[b].term(half);
            for (int r = 0; r < count && days != 0L; r++) {
                if (bills[r].kind == REPEAL && bills[r].names == b && isLater(r, b)) {
                    days &= ~daysInForce(r, half, depth + 1);
                }
            }
            return days;
        }

        private boolean isInForce(int b, int day) {
            return (daysInForce(b, day / HALF, 1) >> day % HALF & 1L) != 0L;
        }

        private int allInForce(int day) {
            int all = 0;
            for (int b = 0; b < count; b++) {
                if (isInForce(b, day)) {
                    all |= 1 << b;
                }
            }
            return all;
        }

        private int daysHeld(int b) {
            return Long.bitCount(daysInForce(b, 0, 1)) + Long.bitCount(daysInForce(b, 1, 1));
        }

        private int daysHeldByOthers(int b) {
            int days = 0;
            for (int other = 0; other < count; other++) {
                days += other == b ? 0 : daysHeld(other);
            }
            return days;
        }
    }

    /** What is known to have been in force, or not. */
    private static final class Readings {
        private final int[] bills = new int[MOST_READINGS];
        private final int[] days = new int[MOST_READINGS];
        private final boolean[] were = new boolean[MOST_READINGS];
        private int count;

        private int append(int b, int day, boolean was) {
            int number = count;
            bills[number] = b;
            days[number] = day;
            were[number] = was;
            count++;
            return number;
        }

        /** Of a council that is settled. */
        private boolean areSo(Council council) {
            for (int k = 0; k < count; k++) {
                if (council.isInForce(bills[k], days[k]) != were[k]) {
                    return false;
                }
            }
            return true;
        }
    }

    /** A council as it might be: each trial sets one thing, looks, and puts it back as it was. */
    private static final class Trials {
        private static int fewestClouds(Council council, int b, int day) {
            council.watchAll();
            int already = council.sky.cloudedMoons();
            // Moons that watch no bill change nothing, so the fewest hold none of them.
            int open = council.allMoons() & ~already;
            int best = NONE;
            for (int set = 0; set <= open; set++) {
                boolean isFewer = best == NONE || Integer.bitCount(set) < Integer.bitCount(best);
                if ((set & ~open) == 0 && isFewer) {
                    council.pass(already | set, NO_BILL);
                    best = council.isInForce(b, day) ? set : best;
                }
            }
            return best;
        }

        private static int firstMove(Council council, int b, int day) {
            Bill bill = council.bills[b];
            int was = bill.day;
            int first = NONE;
            for (int d = 0; d <= LAST_MOVE && first == NONE; d++) {
                bill.day = d;
                council.settle();
                first = council.isInForce(b, day) ? d : NONE;
            }
            bill.day = was;
            return first;
        }

        private static int longestMove(Council council, int b, boolean howLong) {
            Bill bill = council.bills[b];
            int was = bill.day;
            int most = -1;
            int first = 0;
            for (int d = 0; d <= LAST_MOVE; d++) {
                bill.day = d;
                council.settle();
                int held = council.daysHeld(b);
                if (held > most) {
                    most = held;
                    first = d;
                }
            }
            bill.day = was;
            return howLong ? most : first;
        }

        private static int gainOfOthers(Council council, int b) {
            council.settle();
            int withIt = council.daysHeldByOthers(b);
            council.pass(council.sky.cloudedMoons(), b);
            return withIt - council.daysHeldByOthers(b);
        }

        private static int possibleSpans(Council council, Readings readings) {
            int was = council.watch;
            int set = 0;
            for (int v = 0; v <= LAST_SPAN; v++) {
                council.watch = v;
                council.settle();
                set |= readings.areSo(council) ? 1 << v : 0;
            }
            council.watch = was;
            return set;
        }

        private static int possibleOrigins(Council council, Readings readings) {
            int was = council.sky.begins;
            int set = 0;
            for (int day = 0; day <= LAST_ORIGIN; day++) {
                council.sky.begins = day;
                council.settle();
                set |= readings.areSo(council) ? 1 << day : 0;
            }
            council.sky.begins = was;
            return set;
        }

        private static int possibleKinds(Council council, Readings readings, int b) {
            Bill bill = council.bills[b];
            int was = bill.kind;
            int set = 0;
            for (int kind = 0; kind <= LAST_KIND; kind++) {
                bill.kind = kind;
                council.settle();
                set |= readings.areSo(council) ? 1 << kind : 0;
            }
            bill.kind = was;
            return set;
        }

        private static int possibleMoves(Council council, Readings readings, int b, boolean theFirst) {
            Bill bill = council.bills[b];
            int was = bill.day;
            int howMany = 0;
            int first = NONE;
            for (int d = 0; d <= LAST_MOVE; d++) {
                bill.day = d;
                council.settle();
                if (readings.areSo(council)) {
                    howMany++;
                    first = first == NONE ? d : first;
                }
            }
            bill.day = was;
            return theFirst ? first : howMany;
        }

        private static long shareOfClouds(Council council, int b, int day, boolean theLower) {
            council.watchAll();
            // Moons that watch no bill split every count alike, so the share is the same without them.
            int moons = council.allMoons();
            int upper = 0;
            int lower = 0;
            for (int set = 0; set <= moons; set++) {
                if ((set & ~moons) == 0) {
                    council.pass(set, NO_BILL);
                    upper += council.isInForce(b, day) ? 1 : 0;
                    lower++;
                }
            }
            // All such sets are a power of two, so the least terms are come to by halving alone.
            while (lower > 1 && upper % 2 == 0) {
                upper /= 2;
                lower /= 2;
            }
            return theLower ? lower : upper;
        }
    }
}
