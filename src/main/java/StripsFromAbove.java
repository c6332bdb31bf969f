import java.util.Arrays;

/** A country of twelve by sixteen miles, the planes that fly strips over it, and what their clicks cover. */
public final class StripsFromAbove {
    public static final int NONE = -1, BAD = -2, STATE = -3, FULL = -4;
    public static final long NO = -4611686018427387904L;

    private static final int NO_SUCH = -5, NO_STRIP = -6, NOT_SO = -7;
    private static final int NOT_ASKED = -105, NOT_SET = -107, NOT_SAID = -1000, FAULT = -100;
    private static final int NOTHING = -11, OUTSIDE = -12, UNLIKE = -13, BELOW = -14;

    private static final int COLUMNS = 12, ROWS = 16, MILES = 192;
    private static final int PLANES = 4, STRIPS = 12, TEXTS = 6, TAPE = 160, SHEETS = 4, CELLS = 40;
    private static final int MOST_WIND = 5, HOURS = 24, MOST_HILL = 9, MOST_MORE = 9, MOST_EVERY = 9;
    private static final int MOST_LOAD = 999, MOST_CLICKS = 200, MOST_DAYS = 12, MOST_SEED = 99999;
    private static final int LAST_FROM = 9, MOST_APART = 9, MOST_PAIRS = 20;

    private static final int PLANE = 0, QUICK = 1, HIGH = 2, STEADY = 3, WIDE = 4, OLD = 5, A_STRIP = 6;
    /** Of each kind the one above it. */
    private static final int[] ABOVE = {NONE, PLANE, PLANE, QUICK, HIGH, PLANE};

    private static final int BYTES = 0, SHORTS = 1, INTS = 2;

    private static final int SEES = 0, DRIFTS = 1, FROSTS = 2, PARTS = 3;
    private static final int[] LEAST_SAID = {0, -9, 0};
    private static final int[] MOST_SAID = {9, 9, 100};
    private static final int NAMES = 6;
    private static final String FIRST_TEXT = "sees 3 - hill ; drifts wind ; frosts 0 ;";

    private final Scene now = new Scene();
    private final Scene thought = new Scene();
    private final Scene kept = new Scene();
    private boolean anyKept;
    private final Law[] lawRow = new Law[TEXTS];
    private int lawCount;
    private final int[] tape = new int[TAPE];
    private int tapeSize;
    private final Sheet[] sheetRow = new Sheet[SHEETS];
    private final Flight trip = new Flight();
    private final int[] asked = new int[NAMES];

    public StripsFromAbove() {
        for (int t = 0; t < lawRow.length; t++) {
            lawRow[t] = t == 0 ? firstLaw() : new Law();
        }
        lawCount = 1;
        for (int s = 0; s < sheetRow.length; s++) {
            sheetRow[s] = new Sheet();
        }
    }

    private static Law firstLaw() {
        int[] bytes = new int[TAPE];
        int size = Math.min(FIRST_TEXT.length(), TAPE);
        for (int i = 0; i < size; i++) {
            put(bytes, i, FIRST_TEXT.charAt(i));
        }
        Law law = new Law();
        new Reader(bytes, size, law).read();
        return law;
    }

    // ---- the country, the law

    public int count(int what) {
        switch (what) {
            case 0: return now.planes;
            case 1: return now.strips;
            case 2: return now.wind;
            case 3: return now.hour;
            case 4: return now.who;
            case 5: return lawCount;
            case 6: return now.law;
            case 7: return tapeSize;
            default: return BAD;
        }
    }

    public int set(int what, int v) {
        if (what < 0 || what > 2) {
            return NOT_ASKED;
        }
        int was;
        if (what == 0) {
            if (v < -MOST_WIND || v > MOST_WIND) {
                return NOT_SET;
            }
            was = now.wind;
            now.wind = v;
        } else if (what == 1) {
            if (v < 0 || v >= HOURS) {
                return NOT_SET;
            }
            was = now.hour;
            now.hour = v;
        } else {
            if (v != NONE && !isPlane(v)) {
                return NOT_SET;
            }
            was = now.who;
            now.who = v;
        }
        return was;
    }

    public int land(int m, int what, int v) {
        if (!isMile(m)) {
            return NO_SUCH;
        }
        if (what < 0 || what > 1 || v < 0 || v > (what == 0 ? MOST_HILL : 1)) {
            return NOT_SO;
        }
        int[] row = what == 0 ? now.hills : now.clouds;
        int was = at(row, m);
        put(row, m, v);
        return was;
    }

    public int mile(int m, int what) {
        if (!isMile(m)) {
            return NO_SUCH;
        }
        if (what < 0 || what > 1) {
            return NOT_SO;
        }
        return at(what == 0 ? now.hills : now.clouds, m);
    }

    public int feed(int n, int a, int b, int c, int d, int e) {
        if (n < 1 || n > 5 || !isByte(a) || !isByte(b) || !isByte(c) || !isByte(d) || !isByte(e)) {
            return BAD;
        }
        if (tapeSize + n > TAPE) {
            return FULL;
        }
        // All five, since what lies behind the tape's end is never looked at, and written over by what comes next.
        put(tape, tapeSize, a);
        put(tape, tapeSize + 1, b);
        put(tape, tapeSize + 2, c);
        put(tape, tapeSize + 3, d);
        put(tape, tapeSize + 4, e);
        tapeSize += n;
        return tapeSize;
    }

    public int text() {
        Law next = lawAt(lawCount);
        if (next == null) {
            return FULL;
        }
        int fault = new Reader(tape, tapeSize, next).read();
        tapeSize = 0;
        if (fault != NONE) {
            return FAULT - fault;
        }
        lawCount++;
        return lawCount - 1;
    }

    public int force(int t) {
        if (t < 0 || t >= lawCount) {
            return BAD;
        }
        int was = now.law;
        now.law = t;
        return was;
    }

    public int asks(int part, int p, int m, int clicks) {
        Law law = lawAt(now.law);
        if (law == null || part < 0 || part >= PARTS || !isPlane(p) || !isMile(m)
                || clicks < 0 || clicks > MOST_CLICKS) {
            return NOT_SAID;
        }
        now.fillNames(asked, p, m, clicks);
        return law.says(part, asked);
    }

    // ---- planes, strips

    public int plane(int kind, int more) {
        if (kind < PLANE || kind > OLD || more < 0 || more > MOST_MORE) {
            return BAD;
        }
        if (now.planes >= PLANES) {
            return FULL;
        }
        int p = now.planes;
        put(now.kind, p, kind);
        put(now.more, p, more);
        put(now.fuel, p, 300);
        put(now.film, p, 200);
        put(now.every, p, 2);
        now.planes++;
        if (p == 0) {
            now.who = 0;
        }
        return p;
    }

    public int load(int p, int what, int v) {
        if (!isPlane(p)) {
            return NO_SUCH;
        }
        boolean every = what == 2;
        if (what < 0 || what > 2 || v < (every ? 1 : 0) || v > (every ? MOST_EVERY : MOST_LOAD)) {
            return NOT_SO;
        }
        int[] row = what == 0 ? now.fuel : what == 1 ? now.film : now.every;
        int was = at(row, p);
        put(row, p, v);
        return was;
    }

    public int told(int p, int what) {
        if (!isPlane(p)) {
            return NO_SUCH;
        }
        switch (what) {
            case 0: return at(now.kind, p);
            case 1: return at(now.more, p);
            case 2: return at(now.fuel, p);
            case 3: return at(now.film, p);
            case 4: return at(now.every, p);
            case 5: return mileMinutes(at(now.kind, p));
            case 6: return turnMinutes(at(now.kind, p), at(now.more, p));
            default: return NOT_SO;
        }
    }

    public int strip(int way, int at) {
        if (way < 0 || way > 3 || at < 0 || at >= linesOf(way)) {
            return BAD;
        }
        if (now.strips >= STRIPS) {
            return FULL;
        }
        now.addStrip(way, at);
        return now.strips;
    }

    public int drop(int k) {
        if (k < 0 || k >= now.strips) {
            return NO_STRIP;
        }
        int was = now.stripNumber(k);
        now.leaveOut(k);
        return was;
    }

    public int planned(int k) {
        if (k < 0 || k >= now.strips) {
            return NO_STRIP;
        }
        return now.stripNumber(k);
    }

    // ---- a flight

    public int flight(int what) {
        if (what < 0 || what > 6) {
            return BAD;
        }
        flyNow();
        switch (what) {
            case 0: return trip.coveredMiles(now.clouds, 1);
            case 1: return trip.coveredMiles(now.clouds, 2);
            case 2: return MILES - trip.coveredMiles(now.clouds, 1);
            case 3: return trip.clicks;
            case 4: return trip.lost;
            case 5: return trip.minutes;
            default: return trip.ended;
        }
    }

    public int seen(int m) {
        if (!isMile(m)) {
            return NO_SUCH;
        }
        flyNow();
        return trip.times(now.clouds, m);
    }

    public int gap(int k) {
        if (!isMile(k)) {
            return NOT_SO;
        }
        flyNow();
        int ahead = 0;
        for (int m = 0; m < MILES; m++) {
            if (trip.times(now.clouds, m) == 0) {
                if (ahead == k) {
                    return m;
                }
                ahead++;
            }
        }
        return NONE;
    }

    // ---- what would be better

    public int spare(int what) {
        if (!isHalf(what)) {
            return BAD;
        }
        int covered = coveredBy(now);
        for (int k = 0; k < now.strips; k++) {
            thought.take(now);
            thought.leaveOut(k);
            if (coveredBy(thought) >= covered) {
                return what == 0 ? k : trip.minutes;
            }
        }
        return NONE;
    }

    public int again(int what) {
        if (!isHalf(what)) {
            return BAD;
        }
        int best = NONE;
        int most = coveredBy(now);
        if (now.strips < STRIPS) {
            for (int way = 0; way < 4; way++) {
                for (int line = 0; line < linesOf(way); line++) {
                    thought.take(now);
                    thought.addStrip(way, line);
                    int covered = coveredBy(thought);
                    if (covered > most) {
                        most = covered;
                        best = 100 * way + line;
                    }
                }
            }
        }
        return what == 0 ? best : most;
    }

    public int apart(int across, int from, int miles, int what) {
        if (!isHalf(across) || from < 0 || from > LAST_FROM || miles < 0 || miles > MILES || !isHalf(what)) {
            return BAD;
        }
        for (int apart = MOST_APART; apart >= 1; apart--) {
            planIn(across, from, apart);
            if (coveredBy(thought) >= miles) {
                return what == 0 ? apart : trip.minutes;
            }
        }
        return NONE;
    }

    public int begin(int apart, int what) {
        if (apart < 1 || apart > MOST_APART || !isHalf(what)) {
            return BAD;
        }
        int best = NONE;
        int most = -1;
        for (int across = 0; across <= 1; across++) {
            for (int from = 0; from <= LAST_FROM; from++) {
                planIn(across, from, apart);
                int covered = coveredBy(thought);
                if (covered > most) {
                    most = covered;
                    best = 10 * across + from;
                }
            }
        }
        return what == 0 ? best : most;
    }

    public int seldom(int what) {
        if (!isHalf(what)) {
            return BAD;
        }
        if (now.who == NONE) {
            return NONE;
        }
        int covered = coveredBy(now);
        thought.take(now);
        for (int every = MOST_EVERY; every >= 1; every--) {
            put(thought.every, thought.who, every);
            if (coveredBy(thought) >= covered) {
                return what == 0 ? every : trip.clicks;
            }
        }
        return NONE;
    }

    public int who(int what) {
        if (!isHalf(what)) {
            return BAD;
        }
        int best = NONE;
        int most = NONE;
        thought.take(now);
        for (int p = 0; p < now.planes; p++) {
            thought.who = p;
            int covered = coveredBy(thought);
            if (covered > most) {
                most = covered;
                best = p;
            }
        }
        return what == 0 ? best : most;
    }

    public int when(int what) {
        if (!isHalf(what)) {
            return BAD;
        }
        int best = NONE;
        int most = -1;
        thought.take(now);
        for (int hour = 0; hour < HOURS; hour++) {
            thought.hour = hour;
            int covered = coveredBy(thought);
            if (covered > most) {
                most = covered;
                best = hour;
            }
        }
        return what == 0 ? best : most;
    }

    public int tuft(int what) {
        if (!isHalf(what)) {
            return BAD;
        }
        int covered = coveredBy(now);
        // No flight goes otherwise for a cloud: without one its own mile at most is covered more.
        for (int m = 0; m < MILES; m++) {
            if (at(now.clouds, m) != 0 && at(trip.over, m) > 0) {
                return what == 0 ? m : covered + 1;
            }
        }
        return what == 0 ? NONE : covered;
    }

    // ---- told pictures

    public int judge(int s, int y) {
        int refusal = refusalOf(s, y);
        if (refusal != 0) {
            return refusal;
        }
        return firstOtherwise(now, s, y);
    }

    public int winds(int s, int y) {
        int refusal = refusalOf(s, y);
        if (refusal != 0) {
            return refusal;
        }
        int bits = 0;
        thought.take(now);
        for (int wind = -MOST_WIND; wind <= MOST_WIND; wind++) {
            thought.wind = wind;
            if (firstOtherwise(thought, s, y) == NONE) {
                bits |= 1 << (wind + MOST_WIND);
            }
        }
        return bits;
    }

    public int kinds(int s, int y, int sort) {
        int refusal = refusalOf(s, y);
        if (refusal != 0) {
            return refusal;
        }
        if (sort < 0 || sort > 3) {
            return NOT_SO;
        }
        if (now.who == NONE) {
            return STATE;
        }
        int first = sort == 2 ? 1 : 0;
        int last = sort == 0 ? OLD : sort == 1 ? MOST_MORE : sort == 2 ? MOST_EVERY : now.planes - 1;
        int bits = 0;
        thought.take(now);
        for (int v = first; v <= last; v++) {
            if (sort == 0) {
                put(thought.kind, thought.who, v);
            } else if (sort == 1) {
                put(thought.more, thought.who, v);
            } else if (sort == 2) {
                put(thought.every, thought.who, v);
            } else {
                thought.who = v;
            }
            if (firstOtherwise(thought, s, y) == NONE) {
                bits |= 1 << v;
            }
        }
        return bits;
    }

    public int laws(int s, int y) {
        int refusal = refusalOf(s, y);
        if (refusal != 0) {
            return refusal;
        }
        int bits = 0;
        thought.take(now);
        for (int t = 0; t < lawCount; t++) {
            thought.law = t;
            if (firstOtherwise(thought, s, y) == NONE) {
                bits |= 1 << t;
            }
        }
        return bits;
    }

    public int film(int s, int y) {
        Sheet sheet = sheetAt(s);
        if (sheet == null) {
            return BAD;
        }
        if (y < 0 || y >= ROWS) {
            return NO_SUCH;
        }
        flyNow();
        sheet.become(SHORTS, COLUMNS);
        int covered = 0;
        for (int x = 0; x < COLUMNS; x++) {
            int times = trip.times(now.clouds, COLUMNS * y + x);
            sheet.write(x, times);
            if (times > 0) {
                covered++;
            }
        }
        return covered;
    }

    // ---- clouds by lots

    public int drawn(int seed, int odds) {
        if (seed < 0 || seed > MOST_SEED || odds < 0 || odds > 100) {
            return BAD;
        }
        flyNow();
        drawClouds(seed, odds);
        return trip.coveredMiles(thought.clouds, 1);
    }

    public long odds(int seed, int days, int odds, int miles, int part) {
        if (seed < 0 || seed > MOST_SEED || days < 1 || days > MOST_DAYS || odds < 0 || odds > 100
                || miles < 0 || miles > MILES || !isHalf(part)) {
            return NO;
        }
        flyNow();
        int above = 0;
        for (int day = 0; day < days; day++) {
            drawClouds(seed + day, odds);
            if (trip.coveredMiles(thought.clouds, 1) >= miles) {
                above++;
            }
        }
        int below = days;
        for (int d = MOST_DAYS; d > 1; d--) {
            if (above % d == 0 && below % d == 0) {
                above /= d;
                below /= d;
            }
        }
        return part == 0 ? above : below;
    }

    public int image() {
        kept.take(now);
        anyKept = true;
        return now.planes;
    }

    public int back() {
        if (!anyKept) {
            return STATE;
        }
        now.take(kept);
        return now.planes;
    }

    // ---- the host

    public int sheet(int s, int sort, int n) {
        Sheet sheet = sheetAt(s);
        if (sheet == null || sort < NONE || sort > INTS || (sort != NONE && n > CELLS)) {
            return BAD;
        }
        if (sort != NONE && n < 0) {
            return BELOW;
        }
        sheet.become(sort, sort == NONE ? 0 : n);
        return 1;
    }

    public int cell(int s, int i, int v) {
        Sheet sheet = sheetAt(s);
        if (sheet == null) {
            return BAD;
        }
        if (sheet.sort == NONE) {
            return NOTHING;
        }
        if (i < 0 || i >= sheet.size) {
            return OUTSIDE;
        }
        sheet.write(i, v);
        return 1;
    }

    public int copy(int s, int i, int other, int j, int n) {
        Sheet from = sheetAt(s);
        Sheet to = sheetAt(other);
        if (from == null || to == null) {
            return BAD;
        }
        if (from.sort == NONE || to.sort == NONE) {
            return NOTHING;
        }
        if (from.sort != to.sort) {
            return UNLIKE;
        }
        if (!from.hasRoom(i, n) || !to.hasRoom(j, n)) {
            return OUTSIDE;
        }
        System.arraycopy(from.cells, i, to.cells, j, n);
        return n;
    }

    public int landBy(int s, int sort, int at, int n) {
        Sheet sheet = sheetAt(s);
        if (sheet == null || sort < BYTES || sort > INTS || n < 0 || n > MOST_PAIRS) {
            return BAD;
        }
        if (sheet.sort == NONE) {
            return NOTHING;
        }
        if (sheet.sort != sort) {
            return UNLIKE;
        }
        int became = 0;
        for (int k = 0; k < n; k++) {
            if (at < 0 || at > sheet.size - 2 - 2 * k) {
                return OUTSIDE;
            }
            int m = at(sheet.cells, at + 2 * k);
            int hill = at(sheet.cells, at + 2 * k + 1);
            if (isMile(m) && hill >= 0 && hill <= MOST_HILL) {
                put(now.hills, m, hill);
                became++;
            }
        }
        return became;
    }

    public int taken(int i, int kind) {
        if (kind < PLANE || kind > A_STRIP) {
            return BAD;
        }
        if (i < 0 || i >= PLANES + STRIPS) {
            return OUTSIDE;
        }
        if (i < PLANES) {
            if (i >= now.planes) {
                return NOTHING;
            }
            return isOfKind(at(now.kind, i), kind) ? i : UNLIKE;
        }
        if (i - PLANES >= now.strips) {
            return NOTHING;
        }
        return kind == A_STRIP ? now.stripNumber(i - PLANES) : UNLIKE;
    }

    // ---- what is asked often

    private boolean isPlane(int p) {
        return p >= 0 && p < now.planes;
    }

    private static boolean isMile(int m) {
        return m >= 0 && m < MILES;
    }

    private static boolean isByte(int v) {
        return v >= 0 && v <= 255;
    }

    private static boolean isHalf(int what) {
        return what == 0 || what == 1;
    }

    private Law lawAt(int t) {
        return t >= 0 && t < lawRow.length ? lawRow[t] : null;
    }

    private Sheet sheetAt(int s) {
        return s >= 0 && s < sheetRow.length ? sheetRow[s] : null;
    }

    private void flyNow() {
        trip.fly(now, lawAt(now.law));
    }

    private int coveredBy(Scene scene) {
        trip.fly(scene, lawAt(scene.law));
        return trip.coveredMiles(scene.clouds, 1);
    }

    /** Planned strips come into thought, instead of all strips. */
    private void planIn(int across, int from, int apart) {
        thought.take(now);
        thought.strips = 0;
        int way = across == 0 ? 0 : 2;
        int lines = linesOf(way);
        for (int k = 0; k < STRIPS && from + k * apart < lines; k++) {
            thought.addStrip(way + k % 2, from + k * apart);
        }
    }

    /** Clouds by a seed come into thought, instead of all clouds. */
    private void drawClouds(int seed, int odds) {
        long lot = seed + 1L;
        for (int m = 0; m < MILES; m++) {
            lot = lot * 48271L % 2147483647L;
            put(thought.clouds, m, lot % 100 < odds ? 1 : 0);
        }
    }

    /** Why a sheet can't tell of a row; 0: it can. */
    private int refusalOf(int s, int y) {
        Sheet sheet = sheetAt(s);
        if (sheet == null) {
            return BAD;
        }
        if (sheet.sort == NONE) {
            return NOTHING;
        }
        if (sheet.size != COLUMNS) {
            return BAD;
        }
        return y < 0 || y >= ROWS ? NO_SUCH : 0;
    }

    /** The first column of which a sheet tells otherwise than a flight in a scene covers; -1: none. */
    private int firstOtherwise(Scene scene, int s, int y) {
        Sheet sheet = sheetAt(s);
        if (sheet == null) {
            return NONE;
        }
        trip.fly(scene, lawAt(scene.law));
        for (int x = 0; x < COLUMNS; x++) {
            if (at(sheet.cells, x) != trip.times(scene.clouds, COLUMNS * y + x)) {
                return x;
            }
        }
        return NONE;
    }

    private static int at(int[] row, int i) {
        return i >= 0 && i < row.length ? row[i] : 0;
    }

    private static void put(int[] row, int i, int v) {
        if (i >= 0 && i < row.length) {
            row[i] = v;
        }
    }

    private static int bounded(int v, int least, int most) {
        return v < least ? least : v > most ? most : v;
    }

    private static int linesOf(int way) {
        return way < 2 ? COLUMNS : ROWS;
    }

    // ---- kinds of planes

    private static boolean isOfKind(int kind, int wanted) {
        int above = kind;
        for (int n = 0; n < ABOVE.length && above >= 0 && above < ABOVE.length; n++) {
            if (above == wanted) {
                return true;
            }
            above = ABOVE[above];
        }
        return false;
    }

    private static int seesAside(int kind, int more, int said) {
        int sees = said;
        if (isOfKind(kind, HIGH)) {
            sees = said + 1;
        }
        if (kind == WIDE) {
            sees = said == 0 ? 0 : sees + more / 4;
        }
        return bounded(sees, 0, 15);
    }

    private static int driftsAside(int kind, int more, int said) {
        int drifts = said;
        if (isOfKind(kind, QUICK)) {
            drifts = said / 2;
        }
        if (kind == STEADY) {
            drifts = said > 0 ? Math.max(drifts - more / 2, 0) : Math.min(drifts + more / 2, 0);
        }
        if (kind == OLD) {
            drifts = said + said * more / 9;
        }
        return bounded(drifts, -20, 20);
    }

    private static int mileMinutes(int kind) {
        return isOfKind(kind, HIGH) || kind == OLD ? 2 : 1;
    }

    private static int turnMinutes(int kind, int more) {
        if (isOfKind(kind, QUICK)) {
            return 4 + 2 + more / 3;
        }
        if (isOfKind(kind, HIGH)) {
            return 8;
        }
        return kind == OLD ? 5 : 4;
    }

    /** All that an image keeps. */
    private static final class Scene {
        final int[] hills = new int[MILES];
        final int[] clouds = new int[MILES];
        final int[] ways = new int[STRIPS];
        final int[] lines = new int[STRIPS];
        int strips;
        final int[] kind = new int[PLANES];
        final int[] more = new int[PLANES];
        final int[] fuel = new int[PLANES];
        final int[] film = new int[PLANES];
        final int[] every = new int[PLANES];
        int planes;
        int wind;
        int hour = 10;
        int who = NONE;
        int law;

        void take(Scene other) {
            System.arraycopy(other.hills, 0, hills, 0, MILES);
            System.arraycopy(other.clouds, 0, clouds, 0, MILES);
            System.arraycopy(other.ways, 0, ways, 0, STRIPS);
            System.arraycopy(other.lines, 0, lines, 0, STRIPS);
            strips = other.strips;
            System.arraycopy(other.kind, 0, kind, 0, PLANES);
            System.arraycopy(other.more, 0, more, 0, PLANES);
            System.arraycopy(other.fuel, 0, fuel, 0, PLANES);
            System.arraycopy(other.film, 0, film, 0, PLANES);
            System.arraycopy(other.every, 0, every, 0, PLANES);
            planes = other.planes;
            wind = other.wind;
            hour = other.hour;
            who = other.who;
            law = other.law;
        }

        void addStrip(int way, int line) {
            if (strips < STRIPS) {
                put(ways, strips, way);
                put(lines, strips, line);
                strips++;
            }
        }

        void leaveOut(int k) {
            for (int i = k; i + 1 < strips; i++) {
                put(ways, i, at(ways, i + 1));
                put(lines, i, at(lines, i + 1));
            }
            strips--;
        }

        int stripNumber(int k) {
            return 100 * at(ways, k) + at(lines, k);
        }

        /** What the names of a text mean, in the order of the reader's words. */
        void fillNames(int[] names, int p, int m, int clicks) {
            put(names, 0, at(hills, m));
            put(names, 1, wind);
            put(names, 2, at(more, p));
            put(names, 3, hour);
            put(names, 4, Math.min(clicks, MOST_CLICKS));
            put(names, 5, m / COLUMNS);
        }
    }

    /** A flight of who flies in a scene; it heeds no clouds, so that they can be asked about afterwards. */
    private static final class Flight {
        /** How often each mile would be covered if there were no clouds. */
        final int[] over = new int[MILES];
        int clicks;
        int lost;
        int minutes;
        int ended;
        private int kind;
        private int more;
        private final int[] names = new int[NAMES];

        void fly(Scene scene, Law law) {
            Arrays.fill(over, 0);
            clicks = 0;
            lost = 0;
            minutes = 0;
            ended = 0;
            if (scene == null || law == null || scene.who == NONE) {
                return;
            }
            kind = at(scene.kind, scene.who);
            more = at(scene.more, scene.who);
            for (int k = 0; k < scene.strips; k++) {
                minutes += k == 0 ? 0 : turnMinutes(kind, more);
                if (!flyStrip(scene, law, at(scene.ways, k), at(scene.lines, k))) {
                    return;
                }
                ended++;
            }
        }

        /** Whether the fuel lasts to the strip's end. */
        private boolean flyStrip(Scene scene, Law law, int way, int line) {
            boolean along = way < 2;
            boolean back = way % 2 == 1;
            int steps = along ? ROWS : COLUMNS;
            int aMile = mileMinutes(kind);
            int fuel = at(scene.fuel, scene.who);
            int film = at(scene.film, scene.who);
            int every = at(scene.every, scene.who);
            int drifts = driftsOver(scene, law, along, back ? steps - 1 : 0, line);
            for (int i = 0; i < steps; i++) {
                if (minutes + aMile > fuel) {
                    return false;
                }
                minutes += aMile;
                if (every > 0 && i % every == 0 && clicks < film) {
                    int aside = line + (along ? drifts * i / ROWS : drifts * i / COLUMNS);
                    click(scene, law, along, back ? steps - 1 - i : i, aside);
                }
            }
            return true;
        }

        private int driftsOver(Scene scene, Law law, boolean along, int ahead, int aside) {
            int m = along ? COLUMNS * ahead + aside : COLUMNS * aside + ahead;
            scene.fillNames(names, scene.who, m, clicks);
            return driftsAside(kind, more, law.says(DRIFTS, names));
        }

        private void click(Scene scene, Law law, boolean along, int ahead, int aside) {
            int before = clicks;
            clicks++;
            int y = along ? ahead : aside;
            int x = along ? aside : ahead;
            if (y < 0 || y >= ROWS || x < 0 || x >= COLUMNS) {
                lost++;
                return;
            }
            scene.fillNames(names, scene.who, COLUMNS * y + x, clicks);
            int hour = scene.hour + minutes / 60;
            if (hour < 10 || hour >= 14 || before % 100 < law.says(FROSTS, names)) {
                lost++;
                return;
            }
            int sees = seesAside(kind, more, law.says(SEES, names));
            cover(y, along ? 1 : sees, x, along ? sees : 1);
        }

        private void cover(int row, int rowsAside, int column, int columnsAside) {
            int lastRow = Math.min(row + rowsAside, ROWS - 1);
            int lastColumn = Math.min(column + columnsAside, COLUMNS - 1);
            for (int y = Math.max(row - rowsAside, 0); y <= lastRow; y++) {
                for (int x = Math.max(column - columnsAside, 0); x <= lastColumn; x++) {
                    put(over, COLUMNS * y + x, at(over, COLUMNS * y + x) + 1);
                }
            }
        }

        /** How often a mile is covered under such clouds. */
        int times(int[] clouds, int m) {
            return at(clouds, m) != 0 ? 0 : at(over, m);
        }

        int coveredMiles(int[] clouds, int often) {
            int covered = 0;
            for (int m = 0; m < MILES; m++) {
                if (times(clouds, m) >= often) {
                    covered++;
                }
            }
            return covered;
        }
    }

    /** A text that has been read: what its parts work out, one behind another, values ahead of what joins them. */
    private static final class Law {
        private final int[] works = new int[TAPE];
        private final int[] values = new int[TAPE];
        /** Where each part begins, and where the last one ends. */
        private final int[] bounds = new int[PARTS + 1];
        /** A text has no more tokens than the tape has bytes, so that they all have room. */
        private final int[] pile = new int[TAPE];
        private int size;

        void clear() {
            size = 0;
        }

        void add(int work, int value) {
            if (size < TAPE) {
                put(works, size, work);
                put(values, size, value);
                size++;
            }
        }

        void endPart(int part) {
            put(bounds, part + 1, size);
        }

        int says(int part, int[] names) {
            int high = 0;
            int end = at(bounds, part + 1);
            for (int k = at(bounds, part); k < end; k++) {
                int work = at(works, k);
                if (work == Reader.NUMBER) {
                    put(pile, high, at(values, k));
                    high++;
                } else if (work == Reader.NAME) {
                    put(pile, high, at(names, at(values, k)));
                    high++;
                } else if (work == Reader.NOT) {
                    put(pile, high - 1, at(pile, high - 1) == 0 ? 1 : 0);
                } else if (work == Reader.OPPOSITE) {
                    put(pile, high - 1, -at(pile, high - 1));
                } else {
                    high--;
                    put(pile, high - 1, joined(work, at(pile, high - 1), at(pile, high)));
                }
            }
            return bounded(at(pile, 0), at(LEAST_SAID, part), at(MOST_SAID, part));
        }

        private static int joined(int work, int a, int b) {
            switch (work) {
                case '+': return a + b;
                case '-': return a - b;
                case '*': return a * b;
                case '<': return a < b ? 1 : 0;
                case '=': return a == b ? 1 : 0;
                case Reader.AND: return a != 0 && b != 0 ? 1 : 0;
                default: return a != 0 || b != 0 ? 1 : 0;
            }
        }
    }

    /** Reads a text from a tape into a law, a token ahead of what it has understood. */
    private static final class Reader {
        // Tokens; a sign is its own byte.
        static final int END = 0, WRONG = 1, NUMBER = 2, NAME = 3, FIRST_KEY = 4, OR = 7, AND = 8, NOT = 9;
        /** A minus ahead of a ONE is no token of its own, but a work of its own. */
        static final int OPPOSITE = 10;
        /** Six bytes each: the keys, in the order of their tokens, then the names. */
        private static final String WORDS =
                "sees  driftsfrostsor    and   not   hill  wind  more  hour  clicksrow   ";
        private static final int KEYS = 6, WORD_COUNT = 12, LETTERS = 6, DIGITS = 4, MOST_OPEN = 5;

        private final int[] tape;
        private final int size;
        private final Law law;
        private int next;
        private int place;
        private int token;
        private int value;
        private int fault = NONE;

        Reader(int[] tape, int size, Law law) {
            this.tape = tape;
            this.size = size;
            this.law = law;
        }

        /** The place of the fault; -1: there is none. */
        int read() {
            law.clear();
            advance();
            for (int part = 0; part < PARTS; part++) {
                expect(FIRST_KEY + part);
                readEither(0);
                expect(';');
                law.endPart(part);
            }
            if (token != END) {
                refuse();
            }
            return fault;
        }

        /** From then on there is a token that nothing takes, so that all comes to its end. */
        private void refuse() {
            if (fault == NONE) {
                fault = place;
            }
            token = WRONG;
        }

        private void expect(int wanted) {
            if (token == wanted) {
                advance();
            } else {
                refuse();
            }
        }

        private void readEither(int open) {
            readBoth(open);
            for (int n = 0; n < TAPE && token == OR; n++) {
                advance();
                readBoth(open);
                law.add(OR, 0);
            }
        }

        private void readBoth(int open) {
            readNot(open);
            for (int n = 0; n < TAPE && token == AND; n++) {
                advance();
                readNot(open);
                law.add(AND, 0);
            }
        }

        private void readNot(int open) {
            if (token == NOT) {
                if (open >= MOST_OPEN) {
                    refuse();
                    return;
                }
                advance();
                readNot(open + 1);
                law.add(NOT, 0);
                return;
            }
            readSum(open);
            if (token == '<' || token == '=') {
                int sign = token;
                advance();
                readSum(open);
                law.add(sign, 0);
            }
        }

        private void readSum(int open) {
            readTerm(open);
            for (int n = 0; n < TAPE && (token == '+' || token == '-'); n++) {
                int sign = token;
                advance();
                readTerm(open);
                law.add(sign, 0);
            }
        }

        private void readTerm(int open) {
            readOne(open);
            for (int n = 0; n < TAPE && token == '*'; n++) {
                advance();
                readOne(open);
                law.add('*', 0);
            }
        }

        private void readOne(int open) {
            boolean opens = token == '-' || token == '(';
            if (token == NUMBER || token == NAME) {
                law.add(token, value);
                advance();
            } else if (!opens || open >= MOST_OPEN) {
                refuse();
            } else if (token == '-') {
                advance();
                readOne(open + 1);
                law.add(OPPOSITE, 0);
            } else {
                advance();
                readEither(open + 1);
                expect(')');
            }
        }

        private void advance() {
            while (next < size && isBlank(at(tape, next))) {
                next++;
            }
            place = next;
            if (next >= size) {
                token = END;
                return;
            }
            int first = at(tape, next);
            if (isLetter(first)) {
                readWord();
            } else if (isDigit(first)) {
                readNumber();
            } else {
                next++;
                token = isSign(first) ? first : WRONG;
            }
        }

        private void readWord() {
            while (next < size && isLetter(at(tape, next))) {
                next++;
            }
            int word = wordNumber(next - place);
            if (word == NONE) {
                token = WRONG;
            } else if (word < KEYS) {
                token = FIRST_KEY + word;
            } else {
                token = NAME;
                value = word - KEYS;
            }
        }

        /** Which word stands at the place; -1: none that is known. */
        private int wordNumber(int letters) {
            if (letters > LETTERS) {
                return NONE;
            }
            for (int w = 0; w < WORD_COUNT; w++) {
                boolean same = true;
                for (int i = 0; i < LETTERS; i++) {
                    int from = place + i;
                    int to = LETTERS * w + i;
                    int letter = i < letters && from >= 0 && from < tape.length ? tape[from] : ' ';
                    if (to >= WORDS.length() || WORDS.charAt(to) != letter) {
                        same = false;
                    }
                }
                if (same) {
                    return w;
                }
            }
            return NONE;
        }

        private void readNumber() {
            value = 0;
            while (next < size && isDigit(at(tape, next))) {
                value = 10 * value + at(tape, next) - '0';
                next++;
            }
            token = next - place > DIGITS ? WRONG : NUMBER;
        }

        private static boolean isBlank(int c) {
            return c == 32 || c == 10;
        }

        private static boolean isLetter(int c) {
            return c >= 'a' && c <= 'z';
        }

        private static boolean isDigit(int c) {
            return c >= '0' && c <= '9';
        }

        private static boolean isSign(int c) {
            return c == '(' || c == ')' || c == ';' || c == '+' || c == '-' || c == '*' || c == '<' || c == '=';
        }
    }

    /** A row of numbers of a sort, or, its sort being none, a missing one. */
    private static final class Sheet {
        final int[] cells = new int[CELLS];
        int sort = NONE;
        int size;

        void become(int newSort, int newSize) {
            sort = newSort;
            size = newSize;
            Arrays.fill(cells, 0);
        }

        void write(int i, int v) {
            put(cells, i, sort == BYTES ? (byte) v : sort == SHORTS ? (short) v : v);
        }

        /** Whether n numbers from a place on lie in it; n 0, too, may not begin behind its end. */
        boolean hasRoom(int from, int n) {
            return n >= 0 && n <= size && from >= 0 && from <= size - n;
        }
    }
}
