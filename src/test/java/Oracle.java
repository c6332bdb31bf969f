import java.util.ArrayList;
import java.util.Arrays;
import java.util.List;
import java.util.function.UnaryOperator;

/**
 * The document once more, written apart from the class, in the slowest and plainest way: every thought is a copy
 * of the whole state, every flight looks at every mile. Its face is the class's, so that runs can compare both.
 */
final class Oracle {
    private static final int NONE = -1, BAD = -2, STATE = -3, FULL = -4;
    private static final long NO = -4611686018427387904L;

    private static final class Plane {
        int kind, more, fuel = 300, film = 200, every = 2;

        Plane copy() {
            Plane p = new Plane();
            p.kind = kind;
            p.more = more;
            p.fuel = fuel;
            p.film = film;
            p.every = every;
            return p;
        }

        int sees(int t) {
            switch (kind) {
                case 2: return t + 1;
                case 4: return t == 0 ? 0 : t + 1 + more / 4;
                default: return t;
            }
        }

        int drifts(int t) {
            switch (kind) {
                case 1: return t / 2;
                case 3: return t > 0 ? Math.max(0, t / 2 - more / 2) : Math.min(0, t / 2 + more / 2);
                case 5: return t + t * more / 9;
                default: return t;
            }
        }

        int mileMinutes() {
            return new int[] {1, 1, 2, 1, 2, 2}[kind];
        }

        int turnMinutes() {
            return new int[] {4, 6 + more / 3, 8, 6 + more / 3, 8, 5}[kind];
        }

        boolean is(int wanted) {
            String[] chains = {"0", "10", "20", "310", "420", "50"};
            return chains[kind].indexOf((char) ('0' + wanted)) >= 0;
        }
    }

    private static final class Country {
        int[] hills = new int[192];
        boolean[] clouds = new boolean[192];
        List<int[]> strips = new ArrayList<>();
        List<Plane> planes = new ArrayList<>();
        int wind, hour = 10, who = -1, law;

        Country copy() {
            Country c = new Country();
            c.hills = hills.clone();
            c.clouds = clouds.clone();
            c.strips = new ArrayList<>(strips);
            for (Plane p : planes) {
                c.planes.add(p.copy());
            }
            c.wind = wind;
            c.hour = hour;
            c.who = who;
            c.law = law;
            return c;
        }
    }

    private static final class Result {
        int[] times = new int[192];
        int clicks, lost, minutes, ended;

        int atLeast(int often) {
            return (int) Arrays.stream(times).filter(t -> t >= often).count();
        }

        int covered() {
            return atLeast(1);
        }
    }

    private interface Value {
        int of(int[] names);
    }

    private static final class Fault extends RuntimeException {
        private static final long serialVersionUID = 1L;
        final int place;

        Fault(int place) {
            this.place = place;
        }
    }

    private static final class Parser {
        static final List<String> KEYS = List.of("sees", "drifts", "frosts", "or", "and", "not");
        static final List<String> NAMES = List.of("hill", "wind", "more", "hour", "clicks", "row");
        final List<String> tokens = new ArrayList<>();
        final List<Integer> places = new ArrayList<>();
        int i, open;

        Parser(String text) {
            int at = 0;
            while (at < text.length()) {
                char c = text.charAt(at);
                int end = at + 1;
                if (c == ' ' || c == '\n') {
                    at = end;
                    continue;
                }
                String all = c >= 'a' && c <= 'z' ? "abcdefghijklmnopqrstuvwxyz" : c >= '0' && c <= '9' ? "0123456789" : "";
                while (end < text.length() && all.indexOf(text.charAt(end)) >= 0) {
                    end++;
                }
                String token = text.substring(at, end);
                tokens.add(token);
                places.add(at);
                at = end;
            }
            tokens.add("");
            places.add(text.length());
        }

        String peek() {
            return tokens.get(i);
        }

        Fault fault() {
            return new Fault(places.get(i));
        }

        boolean eat(String... any) {
            if (!peek().isEmpty() && List.of(any).contains(peek())) {
                i++;
                return true;
            }
            return false;
        }

        void need(String t) {
            if (!eat(t)) {
                throw fault();
            }
        }

        void enter() {
            if (open == 5) {
                throw fault();
            }
            open++;
            i++;
        }

        Value[] text() {
            Value[] parts = new Value[3];
            for (int p = 0; p < 3; p++) {
                need(KEYS.get(p));
                parts[p] = e();
                need(";");
            }
            if (!peek().isEmpty()) {
                throw fault();
            }
            return parts;
        }

        Value e() {
            Value a = and();
            while (eat("or")) {
                Value l = a;
                Value r = and();
                a = n -> (l.of(n) != 0 | r.of(n) != 0) ? 1 : 0;
            }
            return a;
        }

        Value and() {
            Value a = not();
            while (eat("and")) {
                Value l = a;
                Value r = not();
                a = n -> (l.of(n) != 0 & r.of(n) != 0) ? 1 : 0;
            }
            return a;
        }

        Value not() {
            if (peek().equals("not")) {
                enter();
                Value v = not();
                open--;
                return n -> v.of(n) == 0 ? 1 : 0;
            }
            Value l = sum();
            if (eat("<")) {
                Value r = sum();
                return n -> l.of(n) < r.of(n) ? 1 : 0;
            }
            if (eat("=")) {
                Value r = sum();
                return n -> l.of(n) == r.of(n) ? 1 : 0;
            }
            return l;
        }

        Value sum() {
            Value a = term();
            while (peek().equals("+") || peek().equals("-")) {
                boolean plus = peek().equals("+");
                i++;
                Value l = a;
                Value r = term();
                a = plus ? n -> l.of(n) + r.of(n) : n -> l.of(n) - r.of(n);
            }
            return a;
        }

        Value term() {
            Value a = one();
            while (eat("*")) {
                Value l = a;
                Value r = one();
                a = n -> l.of(n) * r.of(n);
            }
            return a;
        }

        Value one() {
            String t = peek();
            if (t.equals("-")) {
                enter();
                Value v = one();
                open--;
                return n -> -v.of(n);
            }
            if (t.equals("(")) {
                enter();
                Value v = e();
                need(")");
                open--;
                return v;
            }
            if (NAMES.contains(t)) {
                int name = NAMES.indexOf(t);
                i++;
                return n -> n[name];
            }
            if (!t.isEmpty() && t.length() <= 4 && t.chars().allMatch(c -> c >= '0' && c <= '9')) {
                int number = Integer.parseInt(t);
                i++;
                return n -> number;
            }
            throw fault();
        }
    }

    private Country now = new Country();
    private Country kept;
    private final List<Value[]> texts = new ArrayList<>();
    private final StringBuilder tape = new StringBuilder();
    private final int[][] sheets = new int[4][];
    private final int[] sorts = new int[4];

    Oracle() {
        texts.add(new Parser("sees 3-hill;drifts wind;frosts 0;").text());
    }

    private int says(Country c, int part, Plane p, int m, int clicks) {
        int[] names = {c.hills[m], c.wind, p.more, c.hour, Math.min(200, clicks), m / 12};
        int v = texts.get(c.law)[part].of(names);
        int least = part == 1 ? -9 : 0;
        int most = part == 2 ? 100 : 9;
        return Math.max(least, Math.min(most, v));
    }

    private Result fly(Country c) {
        Result r = new Result();
        if (c.who < 0) {
            return r;
        }
        Plane p = c.planes.get(c.who);
        for (int k = 0; k < c.strips.size(); k++) {
            if (k > 0) {
                r.minutes += p.turnMinutes();
            }
            boolean along = c.strips.get(k)[0] <= 1;
            boolean back = c.strips.get(k)[0] == 1 || c.strips.get(k)[0] == 3;
            int line = c.strips.get(k)[1];
            int steps = along ? 16 : 12;
            int start = back ? steps - 1 : 0;
            int drifts = p.drifts(says(c, 1, p, along ? 12 * start + line : 12 * line + start, r.clicks));
            for (int i = 0; i < steps; i++) {
                if (r.minutes + p.mileMinutes() > c.planes.get(c.who).fuel) {
                    return r;
                }
                r.minutes += p.mileMinutes();
                if (i % p.every != 0 || r.clicks >= p.film) {
                    continue;
                }
                int ahead = back ? steps - 1 - i : i;
                int aside = line + drifts * i / steps;
                click(c, p, r, along, ahead, aside);
            }
            r.ended++;
        }
        return r;
    }

    private void click(Country c, Plane p, Result r, boolean along, int ahead, int aside) {
        int before = r.clicks++;
        int row = along ? ahead : aside;
        int column = along ? aside : ahead;
        if (row < 0 || row > 15 || column < 0 || column > 11) {
            r.lost++;
            return;
        }
        int m = 12 * row + column;
        int hour = c.hour + r.minutes / 60;
        if (hour < 10 || hour >= 14 || before % 100 < says(c, 2, p, m, r.clicks)) {
            r.lost++;
            return;
        }
        int sees = p.sees(says(c, 0, p, m, r.clicks));
        for (int o = 0; o < 192; o++) {
            int rows = Math.abs(o / 12 - row);
            int columns = Math.abs(o % 12 - column);
            int far = along ? columns : rows;
            int near = along ? rows : columns;
            if (far <= sees && near <= 1 && !c.clouds[o]) {
                r.times[o]++;
            }
        }
    }

    private interface Change {
        void in(Country c);
    }

    private Result thought(Change change) {
        Country c = now.copy();
        change.in(c);
        return fly(c);
    }

    private static boolean in(int v, int least, int most) {
        return v >= least && v <= most;
    }

    public int count(int what) {
        int[] all = {now.planes.size(), now.strips.size(), now.wind, now.hour, now.who, texts.size(), now.law, tape.length()};
        return in(what, 0, 7) ? all[what] : BAD;
    }

    public int set(int what, int v) {
        int was;
        switch (what) {
            case 0:
                if (!in(v, -5, 5)) {
                    return -107;
                }
                was = now.wind;
                now.wind = v;
                return was;
            case 1:
                if (!in(v, 0, 23)) {
                    return -107;
                }
                was = now.hour;
                now.hour = v;
                return was;
            case 2:
                if (!in(v, -1, now.planes.size() - 1)) {
                    return -107;
                }
                was = now.who;
                now.who = v;
                return was;
            default:
                return -105;
        }
    }

    public int land(int m, int what, int v) {
        if (!in(m, 0, 191)) {
            return -5;
        }
        if (what == 0 && in(v, 0, 9)) {
            int was = now.hills[m];
            now.hills[m] = v;
            return was;
        }
        if (what == 1 && in(v, 0, 1)) {
            int was = now.clouds[m] ? 1 : 0;
            now.clouds[m] = v == 1;
            return was;
        }
        return -7;
    }

    public int mile(int m, int what) {
        if (!in(m, 0, 191)) {
            return -5;
        }
        return what == 0 ? now.hills[m] : what == 1 ? (now.clouds[m] ? 1 : 0) : -7;
    }

    public int feed(int n, int a, int b, int c, int d, int e) {
        int[] five = {a, b, c, d, e};
        if (!in(n, 1, 5) || Arrays.stream(five).anyMatch(v -> !in(v, 0, 255))) {
            return BAD;
        }
        if (tape.length() + n > 160) {
            return FULL;
        }
        for (int i = 0; i < n; i++) {
            tape.append((char) five[i]);
        }
        return tape.length();
    }

    public int text() {
        if (texts.size() == 6) {
            return FULL;
        }
        String all = tape.toString();
        tape.setLength(0);
        try {
            texts.add(new Parser(all).text());
            return texts.size() - 1;
        } catch (Fault fault) {
            return -100 - fault.place;
        }
    }

    public int force(int t) {
        if (!in(t, 0, texts.size() - 1)) {
            return BAD;
        }
        int was = now.law;
        now.law = t;
        return was;
    }

    public int asks(int part, int p, int m, int clicks) {
        if (!in(part, 0, 2) || !in(p, 0, now.planes.size() - 1) || !in(m, 0, 191) || !in(clicks, 0, 200)) {
            return -1000;
        }
        return says(now, part, now.planes.get(p), m, clicks);
    }

    public int plane(int kind, int more) {
        if (!in(kind, 0, 5) || !in(more, 0, 9)) {
            return BAD;
        }
        if (now.planes.size() == 4) {
            return FULL;
        }
        Plane p = new Plane();
        p.kind = kind;
        p.more = more;
        now.planes.add(p);
        if (now.planes.size() == 1) {
            now.who = 0;
        }
        return now.planes.size() - 1;
    }

    public int load(int p, int what, int v) {
        if (!in(p, 0, now.planes.size() - 1)) {
            return -5;
        }
        Plane plane = now.planes.get(p);
        int was;
        if (what == 0 && in(v, 0, 999)) {
            was = plane.fuel;
            plane.fuel = v;
        } else if (what == 1 && in(v, 0, 999)) {
            was = plane.film;
            plane.film = v;
        } else if (what == 2 && in(v, 1, 9)) {
            was = plane.every;
            plane.every = v;
        } else {
            was = -7;
        }
        return was;
    }

    public int told(int p, int what) {
        if (!in(p, 0, now.planes.size() - 1)) {
            return -5;
        }
        Plane q = now.planes.get(p);
        int[] all = {q.kind, q.more, q.fuel, q.film, q.every, q.mileMinutes(), q.turnMinutes()};
        return in(what, 0, 6) ? all[what] : -7;
    }

    public int strip(int way, int at) {
        if (!in(way, 0, 3) || !in(at, 0, way < 2 ? 11 : 15)) {
            return BAD;
        }
        if (now.strips.size() == 12) {
            return FULL;
        }
        now.strips.add(new int[] {way, at});
        return now.strips.size();
    }

    public int drop(int k) {
        int was = planned(k);
        if (was >= 0) {
            now.strips.remove(k);
        }
        return was;
    }

    public int planned(int k) {
        return in(k, 0, now.strips.size() - 1) ? 100 * now.strips.get(k)[0] + now.strips.get(k)[1] : -6;
    }

    public int flight(int what) {
        Result r = fly(now);
        int[] all = {r.covered(), r.atLeast(2), 192 - r.covered(), r.clicks, r.lost, r.minutes, r.ended};
        return in(what, 0, 6) ? all[what] : BAD;
    }

    public int seen(int m) {
        return in(m, 0, 191) ? fly(now).times[m] : -5;
    }

    public int gap(int k) {
        if (!in(k, 0, 191)) {
            return -7;
        }
        List<Integer> gaps = new ArrayList<>();
        int[] times = fly(now).times;
        for (int m = 0; m < 192; m++) {
            if (times[m] == 0) {
                gaps.add(m);
            }
        }
        return k < gaps.size() ? gaps.get(k) : -1;
    }

    public int spare(int what) {
        if (!in(what, 0, 1)) {
            return BAD;
        }
        for (int k = 0; k < now.strips.size(); k++) {
            int without = k;
            Result r = thought(c -> c.strips.remove(without));
            if (r.covered() >= fly(now).covered()) {
                return what == 0 ? k : r.minutes;
            }
        }
        return -1;
    }

    public int again(int what) {
        if (!in(what, 0, 1)) {
            return BAD;
        }
        int most = fly(now).covered();
        int best = -1;
        for (int n = 0; n < 400 && now.strips.size() < 12; n++) {
            int[] more = {n / 100, n % 100};
            if (more[1] < (more[0] < 2 ? 12 : 16)) {
                int covered = thought(c -> c.strips.add(more)).covered();
                if (covered > most) {
                    most = covered;
                    best = n;
                }
            }
        }
        return what == 0 ? best : most;
    }

    private Result planned(int across, int from, int apart) {
        return thought(c -> {
            c.strips.clear();
            int line = from;
            while (line < (across == 1 ? 16 : 12) && c.strips.size() < 12) {
                c.strips.add(new int[] {2 * across + (c.strips.size() & 1), line});
                line += apart;
            }
        });
    }

    public int apart(int across, int from, int miles, int what) {
        if (!in(across, 0, 1) || !in(from, 0, 9) || !in(miles, 0, 192) || !in(what, 0, 1)) {
            return BAD;
        }
        for (int apart = 9; apart > 0; apart--) {
            Result r = planned(across, from, apart);
            if (r.covered() >= miles) {
                return what == 0 ? apart : r.minutes;
            }
        }
        return -1;
    }

    public int begin(int apart, int what) {
        if (!in(apart, 1, 9) || !in(what, 0, 1)) {
            return BAD;
        }
        return best(0, 19, -1, what, n -> planned(n / 10, n % 10, apart).covered());
    }

    private static int best(int first, int last, int none, int what, UnaryOperator<Integer> covered) {
        int best = none;
        int most = none;
        for (int n = first; n <= last; n++) {
            int c = covered.apply(n);
            if (best == none || c > most) {
                best = n;
                most = c;
            }
        }
        return what == 0 ? best : most;
    }

    public int seldom(int what) {
        if (!in(what, 0, 1)) {
            return BAD;
        }
        for (int every = 9; every >= 1 && now.who >= 0; every--) {
            int e = every;
            Result r = thought(c -> c.planes.get(c.who).every = e);
            if (r.covered() >= fly(now).covered()) {
                return what == 0 ? every : r.clicks;
            }
        }
        return -1;
    }

    public int who(int what) {
        if (!in(what, 0, 1)) {
            return BAD;
        }
        return best(0, now.planes.size() - 1, -1, what, p -> thought(c -> c.who = p).covered());
    }

    public int when(int what) {
        if (!in(what, 0, 1)) {
            return BAD;
        }
        return best(0, 23, -1, what, h -> thought(c -> c.hour = h).covered());
    }

    public int tuft(int what) {
        if (!in(what, 0, 1)) {
            return BAD;
        }
        int most = fly(now).covered();
        int best = -1;
        for (int m = 0; m < 192; m++) {
            int without = m;
            int covered = thought(c -> c.clouds[without] = false).covered();
            if (covered > most) {
                most = covered;
                best = m;
            }
        }
        return what == 0 ? best : most;
    }

    private int refusal(int s, int y) {
        if (!in(s, 0, 3)) {
            return BAD;
        }
        if (sheets[s] == null) {
            return -11;
        }
        if (sheets[s].length != 12) {
            return BAD;
        }
        return in(y, 0, 15) ? 0 : -5;
    }

    private static int[] row(Result r, int y) {
        return Arrays.copyOfRange(r.times, 12 * y, 12 * y + 12);
    }

    public int judge(int s, int y) {
        int refusal = refusal(s, y);
        return refusal != 0 ? refusal : Arrays.mismatch(sheets[s], row(fly(now), y));
    }

    private int bits(int s, int y, int first, int last, int shift, Trial trial) {
        int bits = 0;
        for (int v = first; v <= last; v++) {
            int w = v;
            Result r = thought(c -> trial.in(c, w));
            bits |= Arrays.equals(sheets[s], row(r, y)) ? 1 << (v + shift) : 0;
        }
        return bits;
    }

    private interface Trial {
        void in(Country c, int v);
    }

    public int winds(int s, int y) {
        int refusal = refusal(s, y);
        return refusal != 0 ? refusal : bits(s, y, -5, 5, 5, (c, v) -> c.wind = v);
    }

    public int kinds(int s, int y, int sort) {
        int refusal = refusal(s, y);
        if (refusal != 0) {
            return refusal;
        }
        if (!in(sort, 0, 3)) {
            return -7;
        }
        if (now.who < 0) {
            return STATE;
        }
        switch (sort) {
            case 0: return bits(s, y, 0, 5, 0, (c, v) -> c.planes.get(c.who).kind = v);
            case 1: return bits(s, y, 0, 9, 0, (c, v) -> c.planes.get(c.who).more = v);
            case 2: return bits(s, y, 1, 9, 0, (c, v) -> c.planes.get(c.who).every = v);
            default: return bits(s, y, 0, now.planes.size() - 1, 0, (c, v) -> c.who = v);
        }
    }

    public int laws(int s, int y) {
        int refusal = refusal(s, y);
        return refusal != 0 ? refusal : bits(s, y, 0, texts.size() - 1, 0, (c, v) -> c.law = v);
    }

    public int film(int s, int y) {
        if (!in(s, 0, 3)) {
            return BAD;
        }
        if (!in(y, 0, 15)) {
            return -5;
        }
        sorts[s] = 1;
        sheets[s] = row(fly(now), y);
        return (int) Arrays.stream(sheets[s]).filter(t -> t > 0).count();
    }

    private Result underLots(int seed, int odds) {
        return thought(c -> {
            long lot = seed + 1;
            for (int m = 0; m < 192; m++) {
                lot = lot * 48271 % 2147483647;
                c.clouds[m] = lot % 100 < odds;
            }
        });
    }

    public int drawn(int seed, int odds) {
        return in(seed, 0, 99999) && in(odds, 0, 100) ? underLots(seed, odds).covered() : BAD;
    }

    public long odds(int seed, int days, int odds, int miles, int part) {
        if (!in(seed, 0, 99999) || !in(days, 1, 12) || !in(odds, 0, 100) || !in(miles, 0, 192) || !in(part, 0, 1)) {
            return NO;
        }
        int good = 0;
        for (int d = 0; d < days; d++) {
            good += underLots(seed + d, odds).covered() >= miles ? 1 : 0;
        }
        int a = good;
        int b = days;
        while (b != 0) {
            int rest = a % b;
            a = b;
            b = rest;
        }
        return part == 0 ? good / a : days / a;
    }

    public int image() {
        kept = now.copy();
        return now.planes.size();
    }

    public int back() {
        if (kept == null) {
            return STATE;
        }
        now = kept.copy();
        return now.planes.size();
    }

    public int sheet(int s, int sort, int n) {
        if (!in(s, 0, 3) || !in(sort, -1, 2)) {
            return BAD;
        }
        if (sort == -1) {
            sheets[s] = null;
            return 1;
        }
        if (n > 40) {
            return BAD;
        }
        if (n < 0) {
            return -14;
        }
        sheets[s] = new int[n];
        sorts[s] = sort;
        return 1;
    }

    public int cell(int s, int i, int v) {
        if (!in(s, 0, 3)) {
            return BAD;
        }
        if (sheets[s] == null) {
            return -11;
        }
        if (!in(i, 0, sheets[s].length - 1)) {
            return -12;
        }
        sheets[s][i] = sorts[s] == 0 ? (byte) v : sorts[s] == 1 ? (short) v : v;
        return 1;
    }

    public int copy(int s, int i, int other, int j, int n) {
        if (!in(s, 0, 3) || !in(other, 0, 3)) {
            return BAD;
        }
        if (sheets[s] == null || sheets[other] == null) {
            return -11;
        }
        if (sorts[s] != sorts[other]) {
            return -13;
        }
        if (i < 0 || j < 0 || n < 0 || (long) i + n > sheets[s].length || (long) j + n > sheets[other].length) {
            return -12;
        }
        int[] were = sheets[s].clone();
        for (int k = 0; k < n; k++) {
            sheets[other][j + k] = were[i + k];
        }
        return n;
    }

    public int landBy(int s, int sort, int at, int n) {
        if (!in(s, 0, 3) || !in(sort, 0, 2) || !in(n, 0, 20)) {
            return BAD;
        }
        if (sheets[s] == null) {
            return -11;
        }
        if (sorts[s] != sort) {
            return -13;
        }
        int became = 0;
        long place = at;
        for (int k = 0; k < n; k++, place += 2) {
            if (place < 0 || place + 1 >= sheets[s].length) {
                return -12;
            }
            int m = sheets[s][(int) place];
            int hill = sheets[s][(int) place + 1];
            if (in(m, 0, 191) && in(hill, 0, 9)) {
                now.hills[m] = hill;
                became++;
            }
        }
        return became;
    }

    public int taken(int i, int kind) {
        if (!in(kind, 0, 6)) {
            return BAD;
        }
        if (!in(i, 0, 15)) {
            return -12;
        }
        if (i >= 4) {
            int was = planned(i - 4);
            return was < 0 ? -11 : kind == 6 ? was : -13;
        }
        if (i >= now.planes.size()) {
            return -11;
        }
        return kind < 6 && now.planes.get(i).is(kind) ? i : -13;
    }
}
