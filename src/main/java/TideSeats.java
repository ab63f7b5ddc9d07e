/** Tidal parliaments: pools, the members who sit in them, and the tides that carry them; see README.md. */
public final class TideSeats {
    public static final int UNKNOWN = -1, OUTSIDE = -2, STATE = -3, FULL = -4, NONE = -9;
    public static final long LOST = Long.MIN_VALUE;

    private static final int NO_FAULT = 0, NULL = 1, CAST = 2, INDEX = 3, SIZE = 4;
    private static final int SHEETS = 4, LANES = 3, MOST_CELLS = 60, MOST_TOLD = 20;
    private static final int MOST_POOLS = 6, LEAST_POOLS = 2, MOST_MEMBERS = 6;
    private static final int SHRIMP = 0, CRAB = 1, LIMPET = 2;
    private static final int MOST_STREAM = 3, HIGHEST = 9, MOST_READINGS = 8;
    /** The highest TIDE, BILL, VIEW, MILD, LEAP: each is a digit. */
    private static final int NINE = 9;
    /** Answers of calls that tell a place of a text or a year start below this. */
    private static final int PLACES = -100;

    private final Sheet[] sheets;
    private final Reader reader;
    private final Readings readings;
    private final Route route;
    private Shore shore;
    /** A spare shore for what is only tried: a text that may be none, a year that is told, a height in place of another. */
    private Shore trial;
    private int traced;
    private int latestFault;

    public TideSeats() {
        sheets = new Sheet[SHEETS];
        for (int k = 0; k < SHEETS; k++) {
            sheets[k] = new Sheet();
        }
        reader = new Reader();
        readings = new Readings();
        route = new Route();
        shore = new Shore();
        trial = new Shore();
    }

    // ---- 1 the shore

    public int shore(int sheet, int lane, int i, int n) {
        latestFault = NO_FAULT;
        if (!isSheet(sheet)) {
            return UNKNOWN;
        }
        if (!isLane(lane)) {
            return OUTSIDE;
        }
        int fault = rowFault(sheets[sheet], lane, i, n);
        if (fault != NO_FAULT) {
            return faulted(fault);
        }
        reader.begin(sheets[sheet], i, n);
        if (!trial.readsAll(reader)) {
            return PLACES - reader.place();
        }
        swapShores();
        readings.count = 0;
        return shore.members;
    }

    public int ofPool(int q, int what) {
        if (!isPool(q)) {
            return UNKNOWN;
        }
        switch (what) {
            case 0: return shore.heights[q];
            case 1: return shore.depths[q];
            case 2: return shore.sittersOf(q);
            case 3: return shore.spanOf(q);
            default: return OUTSIDE;
        }
    }

    public int ofMember(int m, int what) {
        if (!isMember(m)) {
            return UNKNOWN;
        }
        switch (what) {
            case 0: return shore.kindOf[m];
            case 1: return shore.seats[m];
            case 2: return shore.views[m];
            case 3: return shore.stepsOf(shore.kindOf[m]);
            default: return OUTSIDE;
        }
    }

    public int raise(int q, int v) {
        if (!isPool(q)) {
            return UNKNOWN;
        }
        if (!isWithin(v, 1, HIGHEST)) {
            return OUTSIDE;
        }
        int old = shore.heights[q];
        shore.heights[q] = v;
        return old;
    }

    public int sway(int m, int v) {
        if (!isMember(m)) {
            return UNKNOWN;
        }
        if (!isDigit(v)) {
            return OUTSIDE;
        }
        int old = shore.views[m];
        shore.views[m] = v;
        return old;
    }

    public int seat(int m, int q) {
        if (!isMember(m) || !isPool(q)) {
            return UNKNOWN;
        }
        int old = shore.seats[m];
        shore.seats[m] = q;
        return old;
    }

    public int flow(int v) {
        int refusal = refusalUnless(isWithin(v, 1, MOST_STREAM));
        if (refusal != 0) {
            return refusal;
        }
        int old = shore.stream;
        shore.stream = v;
        return old;
    }

    public int calm(int v) {
        int refusal = refusalUnless(isDigit(v));
        if (refusal != 0) {
            return refusal;
        }
        int old = shore.mild;
        shore.mild = v;
        return old;
    }

    public int leap(int v) {
        int refusal = refusalUnless(isDigit(v));
        if (refusal != 0) {
            return refusal;
        }
        int old = shore.reach;
        shore.reach = v;
        return old;
    }

    // ---- 2 tides, bills

    public int washed(int h) {
        int refusal = refusalUnless(isDigit(h));
        return refusal != 0 ? refusal : shore.washedBy(h);
    }

    public int carried(int m, int h) {
        if (!isMember(m)) {
            return UNKNOWN;
        }
        return isDigit(h) ? shore.seatBehind(m, h) : OUTSIDE;
    }

    public int tide(int h) {
        int refusal = refusalUnless(isDigit(h));
        return refusal != 0 ? refusal : shore.carryAll(h);
    }

    public int ayes(int v) {
        int refusal = refusalUnless(isDigit(v));
        return refusal != 0 ? refusal : shore.friendsOf(v);
    }

    public int passes(int v) {
        int refusal = refusalUnless(isDigit(v));
        return refusal != 0 ? refusal : shore.poolsWon(shore.friendsOf(v));
    }

    public int law(int v) {
        int refusal = refusalUnless(isDigit(v));
        return refusal != 0 ? refusal : oneIf(shore.isLawBy(shore.friendsOf(v)));
    }

    public int year(int sheet, int lane, int i, int n, int what) {
        int refusal = refusalOfRow(sheet, lane, i, n, isToldOfYears(what));
        if (refusal != 0) {
            return refusal;
        }
        if (!sheets[sheet].areWithin(i, n, NINE)) {
            return OUTSIDE;
        }
        return yearTold(sheets[sheet], i, n, what);
    }

    private int yearTold(Sheet tides, int i, int n, int what) {
        int wrong = firstWrong(tides, i, n);
        if (what == 1) {
            return wrong;
        }
        if (wrong != NONE) {
            return PLACES - wrong;
        }
        trial.become(shore);
        int moves = 0;
        for (int k = 0; k < n; k++) {
            moves += trial.carryAll(tides.cells[i + k]);
        }
        return what == 0 ? moves : endOfYear(what);
    }

    private int firstWrong(Sheet tides, int i, int n) {
        for (int k = 0; k < n; k++) {
            if (shore.washedBy(tides.cells[i + k]) == 0) {
                return k;
            }
        }
        return NONE;
    }

    /** What the trial shore, in which the year has come, tells. */
    private int endOfYear(int what) {
        if (what == 2) {
            return trial.poolsSatIn();
        }
        if (what == 3) {
            return trial.fullestPool();
        }
        if (what >= 20) {
            return oneIf(trial.isLawBy(trial.friendsOf(what - 20)));
        }
        int m = what - 10;
        return isMember(m) ? trial.seats[m] : NONE;
    }

    // ---- 3 bills, leaps, seats

    public int best(int what) {
        int refusal = refusalUnless(isWithin(what, 0, 1));
        if (refusal != 0) {
            return refusal;
        }
        int bill = 0;
        int most = -1;
        for (int v = 0; v <= NINE; v++) {
            int pools = Integer.bitCount(shore.poolsWon(shore.friendsOf(v)));
            if (pools > most) {
                bill = v;
                most = pools;
            }
        }
        return what == 0 ? bill : most;
    }

    public int turn(int v) {
        int refusal = refusalUnless(isDigit(v));
        return refusal != 0 ? refusal : fewestToTurn(shore.friendsOf(v));
    }

    /** Sets come in rising order, so that the first of the fewest is the least of them, too. */
    private int fewestToTurn(int friends) {
        int fewest = NONE;
        for (int set = 0; set < 1 << shore.members; set++) {
            if ((set & friends) == 0 && shore.isLawBy(set | friends)
                    && (fewest == NONE || Integer.bitCount(set) < Integer.bitCount(fewest))) {
                fewest = set;
            }
        }
        return fewest;
    }

    public int drift(int sheet, int lane, int i, int n, int v, int what) {
        int refusal = refusalOfRow(sheet, lane, i, n, isDigit(v) && isWithin(what, 0, 1));
        if (refusal != 0) {
            return refusal;
        }
        if (!sheets[sheet].areWithin(i, n, shore.pools - 1)) {
            return UNKNOWN;
        }
        return what == 0 ? driftOf(v, sheets[sheet], i, n) : originsOf(v, sheets[sheet], i, n);
    }

    private int driftOf(int v, Sheet pools, int i, int n) {
        int bill = v;
        for (int k = 0; k < n; k++) {
            bill = shore.driftIn(pools.cells[i + k], bill);
        }
        return bill;
    }

    private int originsOf(int v, Sheet pools, int i, int n) {
        int origins = 0;
        for (int bill = 0; bill <= NINE; bill++) {
            if (driftOf(bill, pools, i, n) == v) {
                origins |= 1 << bill;
            }
        }
        return origins;
    }

    public int leaps(int a, int b, int k) {
        if (!isPool(a) || !isPool(b)) {
            return UNKNOWN;
        }
        if (!isWithin(k, -1, MOST_POOLS - 1)) {
            return OUTSIDE;
        }
        layLeaps();
        route.find(a, b);
        if (k == 0 && route.length != NONE) {
            return a;
        }
        return k < 0 ? route.length : route.moveAt(k - 1);
    }

    /** Move t is the leap to pool t; one that is too far leads nowhere else. */
    private void layLeaps() {
        route.begin(shore.pools, shore.pools);
        for (int q = 0; q < shore.pools; q++) {
            for (int t = 0; t < shore.pools; t++) {
                route.lay(q, t, shore.isInReach(q, t) ? t : q);
            }
        }
    }

    public int elect(int m, int q, int k) {
        if (!isMember(m) || !isPool(q)) {
            return UNKNOWN;
        }
        if (!isWithin(k, -1, MOST_POOLS - 2)) {
            return OUTSIDE;
        }
        layTides(shore.kindOf[m]);
        route.find(shore.seats[m], q);
        return k < 0 ? route.length : route.moveAt(k);
    }

    /** Move h is the tide h, as it carries one of the kind. */
    private void layTides(int kind) {
        route.begin(shore.pools, NINE + 1);
        for (int q = 0; q < shore.pools; q++) {
            for (int h = 0; h <= NINE; h++) {
                route.lay(q, h, shore.poolBehind(q, kind, h));
            }
        }
    }

    // ---- 4 where they were carried

    public int reading(int m, int h, int q) {
        if (!isMember(m)) {
            return UNKNOWN;
        }
        if (!isDigit(h)) {
            return OUTSIDE;
        }
        if (!isPool(q)) {
            return UNKNOWN;
        }
        return readings.count < MOST_READINGS ? readings.take(m, h, q) : FULL;
    }

    public int back(int k) {
        if (!isWithin(k, 0, readings.count)) {
            return OUTSIDE;
        }
        readings.count -= k;
        return readings.count;
    }

    public int heights(int q) {
        if (!isPool(q)) {
            return UNKNOWN;
        }
        trial.become(shore);
        int fitting = 0;
        for (int v = 1; v <= HIGHEST; v++) {
            trial.heights[q] = v;
            fitting |= readings.areSoIn(trial) ? 1 << v : 0;
        }
        return fitting;
    }

    public int kinds(int m) {
        if (!isMember(m)) {
            return UNKNOWN;
        }
        trial.become(shore);
        int fitting = 0;
        for (int kind = SHRIMP; kind <= LIMPET; kind++) {
            trial.kindOf[m] = kind;
            fitting |= readings.areSoIn(trial) ? 1 << kind : 0;
        }
        return fitting;
    }

    public int streams() {
        if (!hasShore()) {
            return STATE;
        }
        trial.become(shore);
        int fitting = 0;
        for (int v = 1; v <= MOST_STREAM; v++) {
            trial.stream = v;
            fitting |= readings.areSoIn(trial) ? 1 << v : 0;
        }
        return fitting;
    }

    public long odds(int m, int q, int which) {
        if (!isMember(m) || !isPool(q) || !isWithin(which, 0, 1)) {
            return LOST;
        }
        int upper = pairsOfTides(m, q);
        int lower = (NINE + 1) * (NINE + 1);
        int common = commonDivisor(upper, lower);
        return (which == 0 ? upper : lower) / common;
    }

    /** Of all rows of two tides, how many leave the member in the pool. */
    private int pairsOfTides(int m, int q) {
        int kind = shore.kindOf[m];
        int pairs = 0;
        for (int first = 0; first <= NINE; first++) {
            int between = shore.seatBehind(m, first);
            for (int second = 0; second <= NINE; second++) {
                pairs += oneIf(shore.poolBehind(between, kind, second) == q);
            }
        }
        return pairs;
    }

    /** The greatest divisor of both; lower is above 0. */
    private static int commonDivisor(int upper, int lower) {
        for (int d = lower; d > 1; d--) {
            if (upper % d == 0 && lower % d == 0) {
                return d;
            }
        }
        return 1;
    }

    // ---- 5 sheets, parts

    public int sheet(int k, int lane, int n) {
        latestFault = NO_FAULT;
        if (!isSheet(k)) {
            return UNKNOWN;
        }
        if (!isLane(lane) || n > MOST_CELLS) {
            return OUTSIDE;
        }
        if (n < 0) {
            return faulted(SIZE);
        }
        sheets[k].renew(lane, n);
        return 1;
    }

    public int lose(int k) {
        if (!isSheet(k)) {
            return UNKNOWN;
        }
        int had = oneIf(sheets[k].isThere);
        sheets[k].isThere = false;
        return had;
    }

    public int put(int k, int i, int v) {
        latestFault = NO_FAULT;
        if (!isSheet(k)) {
            return UNKNOWN;
        }
        if (!sheets[k].isThere) {
            return faulted(NULL);
        }
        if (!sheets[k].has(i, 1)) {
            return faulted(INDEX);
        }
        sheets[k].cells[i] = sheets[k].cut(v);
        return 1;
    }

    public long cell(int k, int i, int lane) {
        latestFault = NO_FAULT;
        if (!isSheet(k) || !isLane(lane)) {
            return LOST;
        }
        int fault = rowFault(sheets[k], lane, i, 1);
        if (fault != NO_FAULT) {
            latestFault = fault;
            return LOST;
        }
        return sheets[k].cells[i];
    }

    public int copy(int k, int i, int other, int j, int n) {
        latestFault = NO_FAULT;
        if (!isSheet(k) || !isSheet(other)) {
            return UNKNOWN;
        }
        Sheet from = sheets[k];
        Sheet to = sheets[other];
        if (!from.isThere || !to.isThere) {
            return faulted(NULL);
        }
        if (from.lane != to.lane) {
            return faulted(CAST);
        }
        if (!from.has(i, n) || !to.has(j, n)) {
            return faulted(INDEX);
        }
        System.arraycopy(from.cells, i, to.cells, j, n);
        return n;
    }

    public int tell(int m) {
        if (!isMember(m)) {
            return UNKNOWN;
        }
        switch (shore.kindOf[m]) {
            case SHRIMP: return shrimpBody(m);
            case CRAB: return crabBody(m);
            default: return limpetBody(m);
        }
    }

    private int shrimpBody(int m) {
        leave(1);
        return shore.views[m];
    }

    private int crabBody(int m) {
        leave(2);
        return shrimpBody(m) + 100;
    }

    private int limpetBody(int m) {
        leave(3);
        int asCrab = crabBody(m);
        return asCrab + shrimpBody(m);
    }

    public int name(int m) {
        if (!isMember(m)) {
            return UNKNOWN;
        }
        boolean hasOwn = shore.kindOf[m] == LIMPET;
        leave(hasOwn ? 5 : 4);
        return hasOwn ? 60 : m;
    }

    private void leave(int number) {
        traced = 31 * traced + number;
    }

    public int as(int m, int kind) {
        latestFault = NO_FAULT;
        if (!isMember(m)) {
            return UNKNOWN;
        }
        if (!isWithin(kind, SHRIMP, LIMPET)) {
            return OUTSIDE;
        }
        // Each kind is all kinds of lower numbers, too.
        return kind > shore.kindOf[m] ? faulted(CAST) : 1;
    }

    public int trace() {
        return traced;
    }

    public int fault() {
        return latestFault;
    }

    public int many(int what) {
        switch (what) {
            case 0: return shore.members;
            case 1: return shore.pools;
            case 2: return shore.stream;
            case 3: return shore.mild;
            case 4: return shore.reach;
            case 5: return readings.count;
            default: return OUTSIDE;
        }
    }

    // ---- what the calls share

    private static boolean isWithin(int v, int least, int most) {
        return v >= least && v <= most;
    }

    private static boolean isDigit(int v) {
        return isWithin(v, 0, NINE);
    }

    private static boolean isSheet(int k) {
        return isWithin(k, 0, SHEETS - 1);
    }

    private static boolean isLane(int lane) {
        return isWithin(lane, 0, LANES - 1);
    }

    private static boolean isToldOfYears(int what) {
        return isWithin(what, 0, 3) || isWithin(what, 10, 15) || isWithin(what, 20, 29);
    }

    private static int oneIf(boolean so) {
        return so ? 1 : 0;
    }

    private boolean isPool(int q) {
        return isWithin(q, 0, shore.pools - 1);
    }

    private boolean isMember(int m) {
        return isWithin(m, 0, shore.members - 1);
    }

    private boolean hasShore() {
        return shore.pools > 0;
    }

    /** The refusal of a call that asks of the whole shore; 0: none. */
    private int refusalUnless(boolean numberIsAsTold) {
        if (!numberIsAsTold) {
            return OUTSIDE;
        }
        return hasShore() ? 0 : STATE;
    }

    /** What a call of a row that is told answers ahead of its cells; 0: nothing, it goes on. */
    private int refusalOfRow(int sheet, int lane, int i, int n, boolean otherNumbersAreAsTold) {
        latestFault = NO_FAULT;
        if (!isSheet(sheet)) {
            return UNKNOWN;
        }
        if (!isLane(lane) || !isWithin(n, 0, MOST_TOLD) || !otherNumbersAreAsTold) {
            return OUTSIDE;
        }
        int fault = rowFault(sheets[sheet], lane, i, n);
        if (fault != NO_FAULT) {
            return faulted(fault);
        }
        return hasShore() ? 0 : STATE;
    }

    private int faulted(int fault) {
        latestFault = fault;
        return -10 - fault;
    }

    /** The first fault of n cells from i on, taken as a row of a lane; nothing can be taken as each lane. */
    private static int rowFault(Sheet sheet, int lane, int i, int n) {
        if (sheet.isThere && sheet.lane != lane) {
            return CAST;
        }
        if (!sheet.isThere) {
            return NULL;
        }
        if (n < 0) {
            return SIZE;
        }
        return sheet.has(i, n) ? NO_FAULT : INDEX;
    }

    private void swapShores() {
        Shore old = shore;
        shore = trial;
        trial = old;
    }

    /** A row of up to 60 numbers of one lane, or nothing. */
    private static final class Sheet {
        /** Ints hold the numbers of each lane: they are cut as they come. */
        final int[] cells = new int[MOST_CELLS];
        boolean isThere;
        int lane;
        int size;

        void renew(int newLane, int n) {
            isThere = true;
            lane = newLane;
            size = n;
            for (int i = 0; i < MOST_CELLS; i++) {
                cells[i] = 0;
            }
        }

        /** Told by a difference, since i + n could wrap. */
        boolean has(int i, int n) {
            return isWithin(i, 0, size) && isWithin(n, 0, size - i);
        }

        boolean areWithin(int i, int n, int most) {
            for (int k = 0; k < n; k++) {
                if (!isWithin(cells[i + k], 0, most)) {
                    return false;
                }
            }
            return true;
        }

        int cut(int v) {
            switch (lane) {
                case 0: return (byte) v;
                case 1: return (short) v;
                default: return v;
            }
        }
    }

    /** Goes through the codes of a text; it halts at the first code that is not as asked. */
    private static final class Reader {
        private Sheet sheet;
        private int start;
        private int end;
        private int at;

        void begin(Sheet from, int i, int n) {
            sheet = from;
            start = i;
            end = i + n;
            at = i;
        }

        int place() {
            return at - start;
        }

        boolean isAtEnd() {
            return at >= end;
        }

        boolean takes(int code) {
            if (isAtEnd() || sheet.cells[at] != code) {
                return false;
            }
            at++;
            return true;
        }

        /** NONE: the next code is no such digit. */
        int digit(int least, int most) {
            if (isAtEnd() || !isWithin(sheet.cells[at], '0' + least, '0' + most)) {
                return NONE;
            }
            int value = sheet.cells[at] - '0';
            at++;
            return value;
        }

        /** NONE: the next code is no letter of a kind. */
        int kind() {
            if (takes('s')) {
                return SHRIMP;
            }
            if (takes('c')) {
                return CRAB;
            }
            return takes('l') ? LIMPET : NONE;
        }
    }

    /** Pools, members and how they are carried and vote; without pools it is no shore. */
    private static final class Shore {
        int stream;
        int mild;
        int reach;
        int pools;
        final int[] heights = new int[MOST_POOLS];
        final int[] depths = new int[MOST_POOLS];
        int members;
        final int[] kindOf = new int[MOST_MEMBERS];
        final int[] seats = new int[MOST_MEMBERS];
        final int[] views = new int[MOST_MEMBERS];

        void become(Shore other) {
            stream = other.stream;
            mild = other.mild;
            reach = other.reach;
            pools = other.pools;
            members = other.members;
            for (int q = 0; q < MOST_POOLS; q++) {
                heights[q] = other.heights[q];
                depths[q] = other.depths[q];
            }
            for (int m = 0; m < MOST_MEMBERS; m++) {
                kindOf[m] = other.kindOf[m];
                seats[m] = other.seats[m];
                views[m] = other.views[m];
            }
        }

        /** False: this is half read, and the reader is at the first fault. */
        boolean readsAll(Reader text) {
            return readsHead(text) && readsPools(text) && readsMembers(text) && text.isAtEnd();
        }

        private boolean readsHead(Reader text) {
            if (!text.takes('r')) {
                return false;
            }
            stream = text.digit(1, MOST_STREAM);
            if (stream == NONE) {
                return false;
            }
            mild = text.digit(0, NINE);
            if (mild == NONE) {
                return false;
            }
            reach = text.digit(0, NINE);
            return reach != NONE;
        }

        private boolean readsPools(Reader text) {
            pools = 0;
            while (pools < MOST_POOLS && text.takes(',')) {
                if (!readsPool(text)) {
                    return false;
                }
                pools++;
            }
            return pools >= LEAST_POOLS;
        }

        private boolean readsPool(Reader text) {
            heights[pools] = text.digit(1, HIGHEST);
            if (heights[pools] == NONE) {
                return false;
            }
            depths[pools] = text.digit(1, NINE);
            return depths[pools] != NONE;
        }

        private boolean readsMembers(Reader text) {
            members = 0;
            while (members < MOST_MEMBERS && text.takes(';')) {
                if (!readsMember(text)) {
                    return false;
                }
                members++;
            }
            return members > 0;
        }

        private boolean readsMember(Reader text) {
            kindOf[members] = text.kind();
            if (kindOf[members] == NONE) {
                return false;
            }
            seats[members] = text.digit(0, pools - 1);
            if (seats[members] == NONE) {
                return false;
            }
            views[members] = text.digit(0, NINE);
            return views[members] != NONE;
        }

        int sittersOf(int q) {
            int sitters = 0;
            for (int m = 0; m < members; m++) {
                if (seats[m] == q) {
                    sitters |= 1 << m;
                }
            }
            return sitters;
        }

        int sittersIn(int q) {
            return Integer.bitCount(sittersOf(q));
        }

        int spanOf(int q) {
            return depths[q] * 6 / (sittersIn(q) + 1);
        }

        int poolsSatIn() {
            int satIn = 0;
            for (int q = 0; q < pools; q++) {
                satIn += oneIf(sittersOf(q) != 0);
            }
            return satIn;
        }

        int fullestPool() {
            int fullest = 0;
            for (int q = 1; q < pools; q++) {
                if (sittersIn(q) > sittersIn(fullest)) {
                    fullest = q;
                }
            }
            return fullest;
        }

        int stepsOf(int kind) {
            switch (kind) {
                case SHRIMP: return stream;
                case CRAB: return stream - 1;
                default: return stream / 2;
            }
        }

        boolean isWashed(int q, int h) {
            return heights[q] < h;
        }

        int washedBy(int h) {
            int wet = 0;
            for (int q = 0; q < pools; q++) {
                if (isWashed(q, h)) {
                    wet |= 1 << q;
                }
            }
            return wet;
        }

        /** Where one of a kind who sits in pool q sits behind a tide. */
        int poolBehind(int q, int kind, int h) {
            if (!isWashed(q, h)) {
                return q;
            }
            int at = q;
            for (int left = stepsOf(kind); left > 0; left--) {
                at = nextWashed(at, h);
            }
            return at;
        }

        /** Where no other pool is washed, the ring comes back to q itself. */
        private int nextWashed(int q, int h) {
            for (int step = 1; step < pools; step++) {
                int next = q + step < pools ? q + step : q + step - pools;
                if (isWashed(next, h)) {
                    return next;
                }
            }
            return q;
        }

        int seatBehind(int m, int h) {
            return poolBehind(seats[m], kindOf[m], h);
        }

        /** How many came to sit elsewhere. */
        int carryAll(int h) {
            int moved = 0;
            for (int m = 0; m < members; m++) {
                int to = seatBehind(m, h);
                moved += oneIf(to != seats[m]);
                seats[m] = to;
            }
            return moved;
        }

        int friendsOf(int bill) {
            int friends = 0;
            for (int m = 0; m < members; m++) {
                if (Math.abs(views[m] - bill) <= mild) {
                    friends |= 1 << m;
                }
            }
            return friends;
        }

        /** The pools that pass a bill which the friends, and nobody else, are for. */
        int poolsWon(int friends) {
            int won = 0;
            for (int q = 0; q < pools; q++) {
                int sitters = sittersOf(q);
                if (Integer.bitCount(sitters & friends) > Integer.bitCount(sitters & ~friends)) {
                    won |= 1 << q;
                }
            }
            return won;
        }

        boolean isLawBy(int friends) {
            return 2 * Integer.bitCount(poolsWon(friends)) > poolsSatIn();
        }

        int driftIn(int q, int bill) {
            int sum = bill;
            for (int m = 0; m < members; m++) {
                sum += seats[m] == q ? views[m] : 0;
            }
            return sum / (sittersIn(q) + 1);
        }

        boolean isInReach(int q, int t) {
            return Math.abs(heights[q] - heights[t]) <= reach;
        }
    }

    /** By a tide each a member was carried to a pool. */
    private static final class Readings {
        private final int[] who = new int[MOST_READINGS];
        private final int[] when = new int[MOST_READINGS];
        private final int[] where = new int[MOST_READINGS];
        int count;

        int take(int m, int h, int q) {
            who[count] = m;
            when[count] = h;
            where[count] = q;
            count++;
            return count - 1;
        }

        boolean areSoIn(Shore shore) {
            for (int k = 0; k < count; k++) {
                if (shore.seatBehind(who[k], when[k]) != where[k]) {
                    return false;
                }
            }
            return true;
        }
    }

    /** The row of the fewest moves from pool to pool, of several the first as a row. */
    private static final class Route {
        private static final int MOST_MOVES = 10;
        private final int[][] behind = new int[MOST_POOLS][MOST_MOVES];
        private final int[] far = new int[MOST_POOLS];
        private final int[] row = new int[MOST_POOLS];
        private int pools;
        private int moves;
        int length;

        void begin(int manyPools, int manyMoves) {
            pools = manyPools;
            moves = manyMoves;
        }

        void lay(int q, int move, int to) {
            behind[q][move] = to;
        }

        void find(int from, int to) {
            measure(to);
            length = far[from];
            int at = from;
            for (int k = 0; k < length; k++) {
                int move = moveTo(at, far[at] - 1);
                if (move != NONE) {
                    row[k] = move;
                    at = behind[at][move];
                }
            }
        }

        /** NONE: the row has no such place. */
        int moveAt(int k) {
            return isWithin(k, 0, length - 1) ? row[k] : NONE;
        }

        /** How far each pool is from the goal; NONE: no way leads there. */
        private void measure(int goal) {
            for (int q = 0; q < pools; q++) {
                far[q] = q == goal ? 0 : NONE;
            }
            for (int round = 1; round < pools; round++) {
                for (int q = 0; q < pools; q++) {
                    if (far[q] == NONE && moveTo(q, round - 1) != NONE) {
                        far[q] = round;
                    }
                }
            }
        }

        /** The first move from q to a pool so far from the goal; NONE: there is none. */
        private int moveTo(int q, int distance) {
            for (int move = 0; move < moves; move++) {
                if (far[behind[q][move]] == distance) {
                    return move;
                }
            }
            return NONE;
        }
    }
}
