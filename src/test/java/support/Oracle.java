import java.util.ArrayList;
import java.util.HashSet;
import java.util.List;
import java.util.NoSuchElementException;
import java.util.Set;

/**
 * The document told a second time in its plainest form: every day walked one by one, no formula, many objects.
 * What the class reckons quickly is compared with it.
 */
public final class Oracle {
    static final int NONE = -1;
    static final Set<String> TOLD = Set.of("parish", "leap", "feast", "sun", "holds", "skips", "day", "or", "and",
        "not", "between", "held", "keeps", "with", "year", "month", "date", "week", "number");

    static final class Fault extends Exception {
        private static final long serialVersionUID = 1L;
        final int kind;
        final int place;

        Fault(int kind, int place) {
            this.kind = kind;
            this.place = place;
        }
    }

    static final class Token {
        final String text;
        final int place;

        Token(String text, int place) {
            this.text = text;
            this.place = place;
        }

        boolean isWord() {
            return text.matches("[a-z]{1,7}");
        }

        boolean isNumber() {
            return text.matches("[0-9]{1,3}");
        }

        boolean isName() {
            return isWord() && !TOLD.contains(text);
        }
    }

    /** The TOKENS of a text; the end is a TOKEN without a text, what is beyond the most bytes one that can't come. */
    static final class Text {
        final List<Token> tokens = new ArrayList<>();
        int i;

        Text(String text, int most) {
            int at = 0;
            while (at < text.length() && at < most) {
                char c = text.charAt(at);
                if (c == ' ' || c == '\n') {
                    at++;
                    continue;
                }
                int to = at;
                while (to < text.length() && String.valueOf(text.charAt(to)).matches("[a-z0-9]")) {
                    to++;
                }
                to = Math.max(to, at + 1);
                tokens.add(new Token(text.substring(at, to), at));
                at = to;
            }
            tokens.add(text.length() > most ? new Token("?", most) : new Token("", text.length()));
        }

        Token now() {
            return tokens.get(i);
        }

        boolean ended() {
            return now().text.isEmpty();
        }

        boolean is(String text) {
            return now().text.equals(text);
        }

        Fault fault(int kind) {
            return new Fault(kind, now().place);
        }

        void take(String text) throws Fault {
            if (!is(text)) {
                throw fault(1);
            }
            i++;
        }

        int number(int low, int high) throws Fault {
            if (!now().isNumber()) {
                throw fault(1);
            }
            int n = Integer.parseInt(now().text);
            if (n < low || n > high) {
                throw fault(2);
            }
            i++;
            return n;
        }

        String name() throws Fault {
            if (!now().isName()) {
                throw fault(1);
            }
            return now().text;
        }
    }

    static final class P {
        String name;
        int months;
        int days;
        int week;
        int start;
        int put = 0;
        int every = 1;
        final List<int[]> called = new ArrayList<>();

        /** YEAR, MONTH, DATE, weekday, put in, of a COUNT: walked on from the latest one known. */
        int[] call(int count) {
            while (called.size() <= count) {
                int c = called.size();
                int[] next = {0, 0, 0, 0, 0};
                if (c > 0) {
                    int[] last = called.get(c - 1);
                    next = last.clone();
                    next[2]++;
                    if (next[1] < months && next[2] == days) {
                        next[1]++;
                        next[2] = 0;
                    }
                    int putNow = next[0] % every == 0 ? put : 0;
                    if (next[1] == months && next[2] == putNow) {
                        next[0]++;
                        next[1] = 0;
                        next[2] = 0;
                    }
                    next[4] = next[1] == months ? 1 : 0;
                }
                next[3] = c % week;
                called.add(next);
            }
            return called.get(count);
        }
    }

    static final class F {
        String name;
        int parish;
        int month;
        int date;
    }

    static final class Land {
        final List<P> parishes = new ArrayList<>();
        final List<F> feasts = new ArrayList<>();
        int sunDays = 365;
        int sunYears = 1;

        int parishOf(String name) {
            for (int p = 0; p < parishes.size(); p++) {
                if (parishes.get(p).name.equals(name)) {
                    return p;
                }
            }
            return NONE;
        }

        int feastOf(String name) {
            for (int f = 0; f < feasts.size(); f++) {
                if (feasts.get(f).name.equals(name)) {
                    return f;
                }
            }
            return NONE;
        }
    }

    static final class State {
        int day;
        int[] count = new int[5];
        boolean[] held = new boolean[5];
        int[] heldDays = new int[5];
        int[] skipped = new int[5];

        State copy() {
            State s = new State();
            s.day = day;
            s.count = count.clone();
            s.held = held.clone();
            s.heldDays = heldDays.clone();
            s.skipped = skipped.clone();
            return s;
        }
    }

    interface Cond {
        boolean of(int p);
    }

    static final class Kept {
        Land land;
        State state;
        String said;
        int ones;
    }

    private String tape = "";
    private Land land = new Land();
    private State state = new State();
    private String said;
    private int ones;
    private final List<State> past = new ArrayList<>();
    private final Kept[] kept = new Kept[2];
    private int fault;
    private int tuned = NONE;
    private int agreeing = NONE;
    private int matchOn = NONE;
    private int reformTo = NONE;
    private int crowdOn = NONE;
    private String title = "";
    private int[] told;
    private int x;

    private boolean no(int p) {
        return p < 0 || p >= land.parishes.size();
    }

    private boolean noFeast(int f) {
        return f < 0 || f >= land.feasts.size();
    }

    private P p(int p) {
        return land.parishes.get(p);
    }

    private int[] today(int p) {
        return p(p).call(state.count[p]);
    }

    private int[] in(int p, int k) {
        return p(p).call(state.count[p] + k - (k > 0 && state.held[p] ? 1 : 0));
    }

    private static boolean sameDate(int[] a, int[] b) {
        return a[1] == b[1] && a[2] == b[2];
    }

    private boolean fallsOn(int f, int k) {
        F feast = land.feasts.get(f);
        int[] day = in(feast.parish, k);
        return day[1] == feast.month && day[2] == feast.date;
    }

    private void keep(State before) {
        past.add(before);
        if (past.size() > 8) {
            past.remove(0);
        }
    }

    public int feed(int a, int b, int c, int d, int e) {
        if (tape.length() + 20 > 940) {
            return NONE;
        }
        StringBuilder t = new StringBuilder(tape);
        for (int n : new int[] {a, b, c, d, e}) {
            t.append((char) (n >>> 24)).append((char) (n >>> 16 & 255)).append((char) (n >>> 8 & 255));
            t.append((char) (n & 255));
        }
        tape = t.toString();
        return tape.length();
    }

    public boolean end(int n) {
        if (n < 0 || n > tape.length()) {
            return false;
        }
        tape = tape.substring(0, n);
        return true;
    }

    public int valley() {
        Text text = new Text(tape, 900);
        tape = "";
        Land next = new Land();
        int lines = 0;
        try {
            Set<String> told = new HashSet<>();
            while (!text.ended()) {
                readLine(text, next, told);
                text.take(";");
                lines++;
            }
        } catch (Fault f) {
            fault = f.kind;
            return -1 - f.place;
        }
        fault = 0;
        land = next;
        state = new State();
        for (int i = 0; i < land.parishes.size(); i++) {
            state.count[i] = p(i).start;
        }
        said = null;
        past.clear();
        return lines;
    }

    private static String newName(Text text, Land next) throws Fault {
        String name = text.name();
        if (next.parishOf(name) >= 0 || next.feastOf(name) >= 0) {
            throw text.fault(3);
        }
        text.i++;
        return name;
    }

    private static int parishName(Text text, Land next) throws Fault {
        int p = next.parishOf(text.name());
        if (p < 0) {
            throw text.fault(3);
        }
        return p;
    }

    private static void readLine(Text text, Land next, Set<String> told) throws Fault {
        if (text.is("parish")) {
            if (next.parishes.size() == 5) {
                throw text.fault(4);
            }
            text.i++;
            P p = new P();
            p.name = newName(text, next);
            p.months = text.number(2, 13);
            p.days = text.number(2, 30);
            p.week = text.number(2, 9);
            p.start = text.number(0, 999);
            next.parishes.add(p);
        } else if (text.is("leap")) {
            text.i++;
            int n = parishName(text, next);
            if (!told.add("leap" + n)) {
                throw text.fault(3);
            }
            text.i++;
            next.parishes.get(n).put = text.number(1, 9);
            next.parishes.get(n).every = text.number(1, 9);
        } else if (text.is("feast")) {
            if (next.feasts.size() == 6) {
                throw text.fault(4);
            }
            text.i++;
            F f = new F();
            f.name = newName(text, next);
            f.parish = parishName(text, next);
            text.i++;
            f.month = text.number(0, next.parishes.get(f.parish).months - 1);
            f.date = text.number(0, next.parishes.get(f.parish).days - 1);
            next.feasts.add(f);
        } else if (text.is("sun")) {
            if (!told.add("sun")) {
                throw text.fault(3);
            }
            text.i++;
            next.sunDays = text.number(1, 999);
            next.sunYears = text.number(1, 30);
        } else {
            throw text.fault(1);
        }
    }

    public int fault() {
        return fault;
    }

    public int parish(int p, int what) {
        if (no(p) || what < 0 || what > 8) {
            throw new NoSuchElementException();
        }
        P of = p(p);
        return new int[] {of.months, of.days, of.week, of.put, of.every, state.count[p], state.held[p] ? 1 : 0,
            state.heldDays[p], state.skipped[p]}[what];
    }

    public int at(int p, int k, int what) {
        if (no(p) || k < -9999 || k > 99999 || what < 0 || what > 3 || state.count[p] + k < 0) {
            return NONE;
        }
        return p(p).call(state.count[p] + k)[what];
    }

    public int countOf(int p, int year, int month, int date) {
        if (no(p) || year < 0 || year > 999) {
            return NONE;
        }
        for (int c = 0; p(p).call(c)[0] <= year; c++) {
            int[] day = p(p).call(c);
            if (day[0] == year && day[1] == month && day[2] == date) {
                return c;
            }
        }
        return NONE;
    }

    public int feast(int f, int what) {
        if (noFeast(f) || what < 0 || what > 3) {
            return NONE;
        }
        F of = land.feasts.get(f);
        return new int[] {of.parish, of.month, of.date, fallsOn(f, 0) ? 1 : 0}[what];
    }

    public int now(int what) {
        int held = 0;
        int feasts = 0;
        int first = 0;
        int between = 0;
        int heldDays = 0;
        int skipped = 0;
        for (int p = 0; p < land.parishes.size(); p++) {
            held += state.held[p] ? 1 << p : 0;
            first += today(p)[3] == 0 ? 1 << p : 0;
            between += today(p)[4] == 1 ? 1 << p : 0;
            heldDays += state.heldDays[p];
            skipped += state.skipped[p];
        }
        for (int f = 0; f < land.feasts.size(); f++) {
            feasts += fallsOn(f, 0) ? 1 << f : 0;
        }
        int[] all = {state.day, held, feasts, first, between, heldDays, skipped};
        return what >= 0 && what < all.length ? all[what] : NONE;
    }

    private static int hold(State s, int p) {
        if (s.held[p]) {
            return 1;
        }
        s.held[p] = true;
        s.heldDays[p]++;
        return 0;
    }

    private static int skip(State s, int p, int n) {
        if (s.count[p] + n > 9999) {
            return 1;
        }
        s.count[p] += n;
        s.skipped[p] += n;
        return 0;
    }

    private void goDay(State s) {
        for (int p = 0; p < land.parishes.size(); p++) {
            if (!s.held[p]) {
                s.count[p]++;
            }
            s.held[p] = false;
        }
        s.day++;
    }

    public int hold(int p) {
        if (no(p)) {
            return NONE;
        }
        State before = state.copy();
        int why = hold(state, p);
        if (why == 0) {
            keep(before);
        }
        return why;
    }

    public int skip(int p, int n) {
        if (no(p) || n < 1 || n > 99) {
            return NONE;
        }
        State before = state.copy();
        int why = skip(state, p, n);
        if (why == 0) {
            keep(before);
        }
        return why;
    }

    public int days(int n) {
        if (n < 1 || n > 999) {
            return NONE;
        }
        State before = state.copy();
        int went = 0;
        while (went < n && state.day < 10000) {
            goDay(state);
            went++;
        }
        if (went > 0) {
            keep(before);
        }
        return went;
    }

    public int undo() {
        if (past.isEmpty()) {
            return NONE;
        }
        state = past.remove(past.size() - 1);
        return past.size();
    }

    public int next(int f) {
        if (noFeast(f)) {
            return NONE;
        }
        int k = 0;
        while (!fallsOn(f, k)) {
            k++;
        }
        return k;
    }

    public int falls(int f, int n) {
        if (noFeast(f) || n < 0 || n > 9999) {
            return NONE;
        }
        int found = 0;
        for (int k = 0; k <= n; k++) {
            found += fallsOn(f, k) ? 1 : 0;
        }
        return found;
    }

    public int meet(int f, int g) {
        if (noFeast(f) || noFeast(g)) {
            return NONE;
        }
        for (int k = 0; k <= 99999; k++) {
            if (fallsOn(f, k) && fallsOn(g, k)) {
                return k;
            }
        }
        return NONE;
    }

    public int fair(int set) {
        if (set < 1 || set >= 1 << land.parishes.size()) {
            return NONE;
        }
        for (int k = 0; k <= 6000; k++) {
            boolean all = true;
            for (int p = 0; p < land.parishes.size(); p++) {
                all &= (set & 1 << p) == 0 || in(p, k)[3] == 0;
            }
            if (all) {
                return k;
            }
        }
        return NONE;
    }

    public int drift(int p, int what) {
        if (no(p) || what < 0 || what > 1) {
            throw new NoSuchElementException();
        }
        P of = p(p);
        // In EVERY * sun's YEARS years: our days less the sun's.
        int below = of.every * land.sunYears;
        int above = of.months * of.days * below + of.put * land.sunYears - land.sunDays * of.every;
        for (int n = below; n > 1; n--) {
            if (above % n == 0 && below % n == 0) {
                above /= n;
                below /= n;
            }
        }
        return what == 0 ? above : below;
    }

    public int tune(int p, int e) {
        if (no(p) || e < 1 || e > 30) {
            return NONE;
        }
        P of = p(p);
        int years = 0;
        for (int y = 1; y <= e; y++) {
            for (int d = 0; d <= 9; d++) {
                if (years == 0 || off(of, y, d) * years < off(of, years, tuned) * y) {
                    years = y;
                    tuned = d;
                }
            }
        }
        return years;
    }

    private long off(P of, int y, int d) {
        return Math.abs(((long) of.months * of.days * y + d) * land.sunYears - (long) land.sunDays * y);
    }

    public int tuned() {
        return tuned;
    }

    private int skips(int p, int q) {
        for (int n = 0; n <= 400; n++) {
            if (sameDate(p(p).call(state.count[p] + n), today(q))) {
                return n;
            }
        }
        return NONE;
    }

    public int agree(int p, int q) {
        if (no(p) || no(q)) {
            return NONE;
        }
        for (int n = 0; n <= 400; n++) {
            if (sameDate(p(p).call(state.count[p] + n), today(q))) {
                agreeing = p;
                return n;
            }
            if (sameDate(p(q).call(state.count[q] + n), today(p))) {
                agreeing = q;
                return n;
            }
        }
        return NONE;
    }

    public int agreeing() {
        return agreeing;
    }

    public int match(int p, int q, int n) {
        if (no(p) || no(q) || n < 0 || n > 999) {
            return NONE;
        }
        List<Integer> found = new ArrayList<>();
        for (int k = 0; k <= n; k++) {
            if (sameDate(in(p, k), in(q, k))) {
                found.add(k);
            }
        }
        if (!found.isEmpty()) {
            matchOn = found.get(0);
        }
        return found.size();
    }

    public int matchOn() {
        return matchOn;
    }

    public int reform() {
        int best = Integer.MAX_VALUE;
        for (int q = 0; q < land.parishes.size(); q++) {
            int all = 0;
            boolean can = true;
            for (int p = 0; p < land.parishes.size(); p++) {
                if (p != q) {
                    can &= skips(p, q) != NONE;
                    all += skips(p, q);
                }
            }
            if (can && all < best) {
                best = all;
                reformTo = q;
            }
        }
        return best == Integer.MAX_VALUE ? NONE : best;
    }

    public int reformTo() {
        return reformTo;
    }

    public int play(int p, int q, int k) {
        if (no(p) || no(q) || k < 1 || k > 9 || skips(p, q) < 1) {
            return NONE;
        }
        int way = skips(p, q);
        // wins[w]: the fewest days by which who is to move, w days ahead of the end, wins.
        int[] wins = new int[way + 1];
        wins[0] = NONE;
        for (int w = 1; w <= way; w++) {
            wins[w] = NONE;
            for (int m = Math.min(k, w); m >= 1; m--) {
                if (wins[w - m] == NONE) {
                    wins[w] = m;
                }
            }
        }
        return wins[way];
    }

    public int crowd(int n) {
        if (n < 0 || n > 999) {
            return NONE;
        }
        int best = NONE;
        for (int k = 0; k <= n; k++) {
            int here = 0;
            for (int f = 0; f < land.feasts.size(); f++) {
                here += fallsOn(f, k) ? 1 : 0;
            }
            if (here > best) {
                best = here;
                crowdOn = k;
            }
        }
        return best;
    }

    public int crowdOn() {
        return crowdOn;
    }

    private static boolean isCalled(int[] day, String letter) {
        for (int i = 0; i < 3; i++) {
            if (letter.charAt(i) != 255 && letter.charAt(i) != day[i + 1]) {
                return false;
            }
        }
        return true;
    }

    public int wrote() {
        String letter = tape;
        tape = "";
        if (letter.length() != 3) {
            return NONE;
        }
        int bits = 0;
        for (int p = 0; p < land.parishes.size(); p++) {
            bits += isCalled(today(p), letter) ? 1 << p : 0;
        }
        return bits;
    }

    public int ago(int p) {
        String letter = tape;
        tape = "";
        if (letter.length() != 3 || no(p)) {
            return NONE;
        }
        for (int c = state.count[p]; c >= 0 && c >= state.count[p] - 9999; c--) {
            if (isCalled(p(p).call(c), letter)) {
                return state.count[p] - c;
            }
        }
        return NONE;
    }

    public int age(int p, int year, int month, int date) {
        int born = countOf(p, year, month, date);
        if (born == NONE || born > state.count[p]) {
            return NONE;
        }
        int found = 0;
        for (int c = born + 1; c <= state.count[p]; c++) {
            found += sameDate(p(p).call(c), p(p).call(born)) ? 1 : 0;
        }
        return found;
    }

    public int ask() {
        int best = NONE;
        int least = Integer.MAX_VALUE;
        for (int what = 0; what < 3 && !land.parishes.isEmpty(); what++) {
            int[] here = new int[40];
            int most = 0;
            for (int p = 0; p < land.parishes.size(); p++) {
                most = Math.max(most, ++here[today(p)[what + 1]]);
            }
            if (most < least) {
                least = most;
                best = what;
            }
        }
        return best;
    }

    public int born(int p, int n) {
        if (no(p) || n < 1 || n > 99) {
            return NONE;
        }
        int times = 0;
        for (int k = 1; k <= 99999; k++) {
            times += sameDate(in(p, k), today(p)) ? 1 : 0;
            if (times == n) {
                return k;
            }
        }
        return NONE;
    }

    public int title(int p) {
        if (no(p)) {
            return NONE;
        }
        int[] day = today(p);
        title = p(p).name + " year " + day[0]
            + (day[4] == 1 ? " between " + day[2] : " month " + day[1] + " day " + day[2])
            + (state.held[p] ? " held" : "");
        return title.length();
    }

    public int byteAt(int i) {
        return i >= 0 && i < title.length() ? title.charAt(i) : NONE;
    }

    private int draw(int n) {
        x = x * 1103515245 + 12345;
        return (x >>> 8) % n;
    }

    private void drawDay(State s) {
        for (int p = 0; p < land.parishes.size(); p++) {
            int d = draw(12);
            if (d == 0) {
                hold(s, p);
            } else if (d == 1) {
                skip(s, p, draw(9) + 1);
            }
        }
        goDay(s);
    }

    public int drawn(int n, int seed) {
        if (n < 1 || n > 99) {
            return NONE;
        }
        State before = state.copy();
        x = seed;
        int went = 0;
        while (went < n && state.day < 10000) {
            drawDay(state);
            went++;
        }
        if (went > 0) {
            keep(before);
        }
        return went;
    }

    public int odds(int f, int n, int seed) {
        if (noFeast(f) || n < 1 || n > 30) {
            return NONE;
        }
        F feast = land.feasts.get(f);
        int found = 0;
        for (int i = 0; i < n; i++) {
            State s = state.copy();
            x = seed + i;
            boolean fell = false;
            for (int d = 0; d < 40 && s.day < 10000; d++) {
                drawDay(s);
                int[] day = p(feast.parish).call(s.count[feast.parish]);
                fell |= day[1] == feast.month && day[2] == feast.date;
            }
            found += fell ? 1 : 0;
        }
        return found;
    }

    public int book(int lives) {
        if (lives != 0 && lives != 1) {
            return -1000;
        }
        Text text = new Text(tape, 400);
        tape = "";
        List<int[]> lines = new ArrayList<>();
        try {
            while (!text.ended()) {
                lines.add(bookLine(text, lines.size()));
                text.take(";");
            }
        } catch (Fault f) {
            fault = f.kind;
            return -2 - f.place;
        }
        fault = 0;
        State s = state.copy();
        int why = 0;
        int good = 0;
        for (int[] line : lines) {
            why = live(s, line);
            if (why != 0) {
                break;
            }
            good++;
        }
        int held = 0;
        for (int p = 0; p < 5; p++) {
            held += s.held[p] ? 1 << p : 0;
        }
        told = new int[] {why, good, s.day, held};
        if (lives == 1 && good > 0) {
            keep(state);
            state = s;
        }
        return why == 0 ? NONE : good;
    }

    private int[] bookLine(Text text, int lines) throws Fault {
        if (text.is("day")) {
            if (lines == 40) {
                throw text.fault(4);
            }
            text.i++;
            return new int[] {2, 0, text.number(1, 999)};
        }
        int p = parishName(text, land);
        if (lines == 40) {
            throw text.fault(4);
        }
        text.i++;
        if (text.is("holds")) {
            text.i++;
            return new int[] {0, p, 0};
        }
        text.take("skips");
        return new int[] {1, p, text.number(1, 99)};
    }

    private int live(State s, int[] line) {
        if (line[0] == 2) {
            if (s.day + line[2] > 10000) {
                return 21;
            }
            for (int i = 0; i < line[2]; i++) {
                goDay(s);
            }
            return 0;
        }
        if (line[0] == 0) {
            return hold(s, line[1]);
        }
        return skip(s, line[1], line[2]) == 0 ? 0 : 11;
    }

    public int told(int what) {
        return told == null || what < 0 || what > 3 ? NONE : told[what];
    }

    /** The SENTENCE is kept as a text and read again for each answer. */
    public int sentence() {
        String read = tape;
        tape = "";
        int before = ones;
        try {
            readSentence(read);
        } catch (Fault f) {
            ones = before;
            fault = f.kind;
            return -1 - f.place;
        }
        fault = 0;
        said = read;
        return ones;
    }

    private Cond readSentence(String read) throws Fault {
        Text text = new Text(read, 200);
        ones = 0;
        Cond cond = cond(text, 1);
        if (!text.ended()) {
            throw text.fault(1);
        }
        return cond;
    }

    private Cond cond(Text text, int depth) throws Fault {
        Cond left = all(text, depth);
        while (text.is("or")) {
            text.i++;
            Cond a = left;
            Cond b = all(text, depth);
            left = p -> a.of(p) || b.of(p);
        }
        return left;
    }

    private Cond all(Text text, int depth) throws Fault {
        Cond left = one(text, depth);
        while (text.is("and")) {
            text.i++;
            Cond a = left;
            Cond b = one(text, depth);
            left = p -> a.of(p) && b.of(p);
        }
        return left;
    }

    private Cond one(Text text, int depth) throws Fault {
        String first = text.now().text;
        List<String> figures = List.of("year", "month", "date", "week", "number");
        boolean can = Set.of("not", "(", "between", "held", "keeps", "with").contains(first) || figures.contains(first);
        if (!can) {
            throw text.fault(1);
        }
        if (ones == 20 || depth == 9) {
            throw text.fault(4);
        }
        ones++;
        text.i++;
        if (first.equals("not")) {
            Cond inner = one(text, depth + 1);
            return p -> !inner.of(p);
        }
        if (first.equals("(")) {
            Cond inner = cond(text, depth + 1);
            text.take(")");
            return inner;
        }
        if (first.equals("between")) {
            return p -> today(p)[4] == 1;
        }
        if (first.equals("held")) {
            return p -> state.held[p];
        }
        if (first.equals("keeps")) {
            int f = land.feastOf(text.name());
            if (f < 0) {
                throw text.fault(3);
            }
            text.i++;
            return p -> land.feasts.get(f).parish == p && fallsOn(f, 0);
        }
        if (first.equals("with")) {
            int q = parishName(text, land);
            text.i++;
            return p -> sameDate(today(p), today(q));
        }
        int what = figures.indexOf(first);
        String sign = text.now().text;
        if (!Set.of("<", "=", ">").contains(sign)) {
            throw text.fault(1);
        }
        text.i++;
        int n = text.number(0, 999);
        return p -> {
            int figure = what == 4 ? p : today(p)[what];
            return sign.equals("<") ? figure < n : sign.equals(">") ? figure > n : figure == n;
        };
    }

    public int said(int k) {
        if (said == null) {
            return NONE;
        }
        List<Integer> whom = new ArrayList<>();
        try {
            Cond cond = readSentence(said);
            for (int p = 0; p < land.parishes.size(); p++) {
                if (cond.of(p)) {
                    whom.add(p);
                }
            }
        } catch (Fault f) {
            throw new IllegalStateException(f);
        }
        return k == NONE ? whom.size() : k >= 0 && k < whom.size() ? whom.get(k) : NONE;
    }

    public boolean image(int k) {
        if (k != 0 && k != 1) {
            return false;
        }
        kept[k] = new Kept();
        kept[k].land = land;
        kept[k].state = state.copy();
        kept[k].said = said;
        kept[k].ones = ones;
        return true;
    }

    public boolean restore(int k) {
        if (k != 0 && k != 1 || kept[k] == null) {
            return false;
        }
        land = kept[k].land;
        state = kept[k].state.copy();
        said = kept[k].said;
        ones = kept[k].ones;
        past.clear();
        return true;
    }

    public int count(int what) {
        int[] all = {land.parishes.size(), land.feasts.size(), land.sunDays, land.sunYears, tape.length()};
        return what >= 0 && what < all.length ? all[what] : NONE;
    }
}
