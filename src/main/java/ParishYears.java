import java.util.NoSuchElementException;

/**
 * A valley of parishes, each of which keeps its own year.
 *
 * Every row is made in the constructor and used again, so that no call makes an object.
 */
public final class ParishYears {
    public static final int NONE = -1;

    private static final int MOST_PARISHES = 5;
    private static final int MOST_FEASTS = 6;
    private static final int MOST_LINES = 40;
    private static final int MOST_ONES = 20;
    private static final int MOST_WITHIN = 8;
    private static final int MOST_UNDONE = 8;
    private static final int IMAGES = 2;

    private static final int TAPE_BYTES = 940;
    private static final int VALLEY_BYTES = 900;
    private static final int BOOK_BYTES = 400;
    private static final int SENTENCE_BYTES = 200;
    private static final int TITLE_BYTES = 64;

    private static final int LAST_DAY = 10000;
    private static final int LAST_COUNT = 9999;
    private static final int LAST_YEAR = 999;
    private static final int FAR_BACK = 9999;
    private static final int FAR = 99999;
    private static final int MOST_SKIPPED = 99;
    private static final int MOST_AT_ONCE = 999;
    private static final int MOST_TO_AGREE = 400;
    /** All weeks of 2 to 9 days begin together again behind so many. */
    private static final int ALL_WEEKS = 2520;
    private static final int ODDS_DAYS = 40;
    private static final int UNREAD = 255;
    private static final int NO_BOOK = -1000;

    /** More than any DATE, so that MONTH and DATE go into one number. */
    private static final int DATES = 32;

    private static final int NO_TOKEN = 1;
    private static final int BAD_NUMBER = 2;
    private static final int BAD_NAME = 3;
    private static final int TOO_MANY = 4;

    /** The kinds of a TOKEN; a sign's kind is its own character, which is above these. */
    private static final int AT_END = 0;
    private static final int AT_WORD = 1;
    private static final int AT_NUMBER = 2;
    private static final int AT_NOTHING = 3;

    /** A WORD has 7 letters at most, so it fits into a long, a byte a letter. */
    private static final long W_PARISH = 0x706172697368L;
    private static final long W_LEAP = 0x6c656170L;
    private static final long W_FEAST = 0x6665617374L;
    private static final long W_SUN = 0x73756eL;
    private static final long W_HOLDS = 0x686f6c6473L;
    private static final long W_SKIPS = 0x736b697073L;
    private static final long W_DAY = 0x646179L;
    private static final long W_OR = 0x6f72L;
    private static final long W_AND = 0x616e64L;
    private static final long W_NOT = 0x6e6f74L;
    private static final long W_BETWEEN = 0x6265747765656eL;
    private static final long W_HELD = 0x68656c64L;
    private static final long W_KEEPS = 0x6b65657073L;
    private static final long W_WITH = 0x77697468L;
    private static final long W_YEAR = 0x79656172L;
    private static final long W_MONTH = 0x6d6f6e7468L;
    private static final long W_DATE = 0x64617465L;
    private static final long W_WEEK = 0x7765656bL;
    private static final long W_NUMBER = 0x6e756d626572L;

    /** The WORDS that no NAME may be. */
    private static final long[] TOLD_WORDS = {
        W_PARISH, W_LEAP, W_FEAST, W_SUN, W_HOLDS, W_SKIPS, W_DAY, W_OR, W_AND, W_NOT,
        W_BETWEEN, W_HELD, W_KEEPS, W_WITH, W_YEAR, W_MONTH, W_DATE, W_WEEK, W_NUMBER
    };

    private final Tape tape;
    private final World world;
    private final Valley valleyDraft;
    private final Sentence sentenceDraft;
    private final Book bookRead;
    private final Almanac almanac;
    private final Title titleTold;
    private final int[] letter;
    /** How it was ahead of an act, and how it would be behind one. */
    private final Days before;
    private final Days trial;
    private final Days[] past;
    private int pastKept;
    private final World[] images;
    private final boolean[] imageKept;
    private int faultKind;

    public ParishYears() {
        tape = new Tape();
        world = new World();
        valleyDraft = new Valley();
        sentenceDraft = new Sentence();
        bookRead = new Book();
        almanac = new Almanac();
        titleTold = new Title();
        letter = new int[3];
        before = new Days();
        trial = new Days();
        past = new Days[MOST_UNDONE];
        for (int i = 0; i < MOST_UNDONE; i++) {
            past[i] = new Days();
        }
        images = new World[IMAGES];
        for (int k = 0; k < IMAGES; k++) {
            images[k] = new World();
        }
        imageKept = new boolean[IMAGES];
    }

    public int feed(int a, int b, int c, int d, int e) {
        if (!tape.hasRoom(20)) {
            return NONE;
        }
        tape.addNumber(a);
        tape.addNumber(b);
        tape.addNumber(c);
        tape.addNumber(d);
        tape.addNumber(e);
        return tape.length;
    }

    public boolean end(int n) {
        if (n < 0 || n > tape.length) {
            return false;
        }
        tape.length = n;
        return true;
    }

    public int valley() {
        int lines = valleyDraft.readFrom(tape);
        closeText();
        if (faultKind != 0) {
            return -1 - tape.faultPlace;
        }
        world.begin(valleyDraft);
        pastKept = 0;
        return lines;
    }

    public int fault() {
        return faultKind;
    }

    public int parish(int p, int what) throws NoSuchElementException {
        if (!world.valley.hasParish(p) || what < 0 || what > 8) {
            throw new NoSuchElementException();
        }
        Parish parish = world.valley.parish[p];
        Days days = world.days;
        switch (what) {
            case 0: return parish.months;
            case 1: return parish.days;
            case 2: return parish.week;
            case 3: return parish.put;
            case 4: return parish.every;
            case 5: return days.count[p];
            case 6: return days.isHeld(p) ? 1 : 0;
            case 7: return days.heldSoFar[p];
            default: return days.skippedSoFar[p];
        }
    }

    public int at(int p, int k, int what) {
        if (!world.valley.hasParish(p) || k < -FAR_BACK || k > FAR || what < 0 || what > 3) {
            return NONE;
        }
        int count = world.days.count[p] + k;
        return count < 0 ? NONE : world.valley.parish[p].called(count, what);
    }

    public int countOf(int p, int year, int month, int date) {
        return world.valley.hasParish(p) ? world.valley.parish[p].countAt(year, month, date) : NONE;
    }

    public int feast(int f, int what) {
        if (!world.valley.hasFeast(f)) {
            return NONE;
        }
        Feast feast = world.valley.feast[f];
        switch (what) {
            case 0: return feast.parish;
            case 1: return feast.month;
            case 2: return feast.date;
            case 3: return world.fallsOn(f, 0) ? 1 : 0;
            default: return NONE;
        }
    }

    public int now(int what) {
        switch (what) {
            case 0: return world.days.day;
            case 1: return world.days.held;
            case 2: return world.feastsToday();
            case 3: return world.firstWeekdays();
            case 4: return world.betweenToday();
            case 5: return world.days.heldInAll();
            case 6: return world.days.skippedInAll();
            default: return NONE;
        }
    }

    public int hold(int p) {
        if (!world.valley.hasParish(p)) {
            return NONE;
        }
        before.copyFrom(world.days);
        int why = world.days.holdDay(p);
        if (why == 0) {
            keepForUndo();
        }
        return why;
    }

    public int skip(int p, int n) {
        if (!world.valley.hasParish(p) || n < 1 || n > MOST_SKIPPED) {
            return NONE;
        }
        before.copyFrom(world.days);
        int why = world.days.skipDays(p, n);
        if (why == 0) {
            keepForUndo();
        }
        return why;
    }

    public int days(int n) {
        if (n < 1 || n > MOST_AT_ONCE) {
            return NONE;
        }
        before.copyFrom(world.days);
        int went = world.days.passDays(n);
        if (went > 0) {
            keepForUndo();
        }
        return went;
    }

    public int undo() {
        if (pastKept < 1 || pastKept > past.length) {
            return NONE;
        }
        pastKept--;
        world.days.copyFrom(past[pastKept]);
        return pastKept;
    }

    public int next(int f) {
        return world.valley.hasFeast(f) ? world.nextFrom(f, 0) : NONE;
    }

    public int falls(int f, int n) {
        return world.valley.hasFeast(f) && n >= 0 && n <= 9999 ? almanac.countFalls(world, f, n) : NONE;
    }

    public int meet(int f, int g) {
        return world.valley.hasFeast(f) && world.valley.hasFeast(g) ? almanac.findMeeting(world, f, g) : NONE;
    }

    public int fair(int set) {
        return set > 0 && set < 1 << world.valley.parishes ? almanac.findFair(world, set) : NONE;
    }

    public int drift(int p, int what) throws NoSuchElementException {
        if (!world.valley.hasParish(p) || what < 0 || what > 1) {
            throw new NoSuchElementException();
        }
        return almanac.driftPart(world.valley, p, what);
    }

    public int tune(int p, int e) {
        return world.valley.hasParish(p) && e >= 1 && e <= 30 ? almanac.findTune(world.valley, p, e) : NONE;
    }

    public int tuned() {
        return almanac.tuneDays;
    }

    public int agree(int p, int q) {
        return hasBoth(p, q) ? almanac.findAgreement(world, p, q) : NONE;
    }

    public int agreeing() {
        return almanac.agreeParish;
    }

    public int match(int p, int q, int n) {
        return hasBoth(p, q) && n >= 0 && n <= MOST_AT_ONCE ? almanac.countMatches(world, p, q, n) : NONE;
    }

    public int matchOn() {
        return almanac.matchDay;
    }

    public int reform() {
        return almanac.findReform(world);
    }

    public int reformTo() {
        return almanac.reformParish;
    }

    public int play(int p, int q, int k) {
        return hasBoth(p, q) && k >= 1 && k <= 9 ? almanac.findMove(world, p, q, k) : NONE;
    }

    public int crowd(int n) {
        return n >= 0 && n <= MOST_AT_ONCE ? almanac.findCrowd(world, n) : NONE;
    }

    public int crowdOn() {
        return almanac.crowdDay;
    }

    public int wrote() {
        return takeLetter() ? almanac.findWriters(world, letter) : NONE;
    }

    public int ago(int p) {
        boolean readable = takeLetter();
        return readable && world.valley.hasParish(p) ? almanac.findAgo(world, p, letter) : NONE;
    }

    public int age(int p, int year, int month, int date) {
        return world.valley.hasParish(p) ? almanac.countAge(world, p, year, month, date) : NONE;
    }

    public int ask() {
        return almanac.findQuestion(world);
    }

    public int born(int p, int n) {
        return world.valley.hasParish(p) && n >= 1 && n <= 99 ? almanac.findBirthday(world, p, n) : NONE;
    }

    public int title(int p) {
        if (!world.valley.hasParish(p)) {
            return NONE;
        }
        titleTold.write(world, p);
        return titleTold.length;
    }

    public int byteAt(int i) {
        return titleTold.has(i) ? titleTold.bytes[i] : NONE;
    }

    public int drawn(int n, int seed) {
        if (n < 1 || n > 99) {
            return NONE;
        }
        before.copyFrom(world.days);
        int went = 0;
        int x = seed;
        while (went < n && world.days.day < LAST_DAY) {
            x = world.days.drawDay(x);
            went++;
        }
        if (went > 0) {
            keepForUndo();
        }
        return went;
    }

    public int odds(int f, int n, int seed) {
        if (!world.valley.hasFeast(f) || n < 1 || n > 30) {
            return NONE;
        }
        int found = 0;
        for (int i = 0; i < n; i++) {
            trial.copyFrom(world.days);
            if (fallsWhenDrawn(f, seed + i)) {
                found++;
            }
        }
        return found;
    }

    public int book(int lives) {
        if (lives < 0 || lives > 1) {
            return NO_BOOK;
        }
        bookRead.readFrom(tape, world.valley);
        closeText();
        if (faultKind != 0) {
            return -2 - tape.faultPlace;
        }
        if (lives == 0) {
            trial.copyFrom(world.days);
            return bookRead.judge(trial);
        }
        before.copyFrom(world.days);
        int wrong = bookRead.judge(world.days);
        if (bookRead.goodLines > 0) {
            keepForUndo();
        }
        return wrong;
    }

    public int told(int what) {
        if (!bookRead.judged) {
            return NONE;
        }
        switch (what) {
            case 0: return bookRead.why;
            case 1: return bookRead.goodLines;
            case 2: return bookRead.dayThen;
            case 3: return bookRead.heldThen;
            default: return NONE;
        }
    }

    public int sentence() {
        sentenceDraft.readFrom(tape, world.valley);
        closeText();
        if (faultKind != 0) {
            return -1 - tape.faultPlace;
        }
        world.sentence.copyFrom(sentenceDraft);
        return world.sentence.ones;
    }

    public int said(int k) {
        if (world.sentence.ones == 0) {
            return NONE;
        }
        int found = 0;
        for (int p = 0; p < world.valley.parishes; p++) {
            if (world.sentence.isTrueOf(world, p)) {
                if (found == k) {
                    return p;
                }
                found++;
            }
        }
        return k == NONE ? found : NONE;
    }

    public boolean image(int k) {
        if (k < 0 || k >= IMAGES) {
            return false;
        }
        images[k].copyFrom(world);
        imageKept[k] = true;
        return true;
    }

    public boolean restore(int k) {
        if (k < 0 || k >= IMAGES || !imageKept[k]) {
            return false;
        }
        world.copyFrom(images[k]);
        pastKept = 0;
        return true;
    }

    public int count(int what) {
        switch (what) {
            case 0: return world.valley.parishes;
            case 1: return world.valley.feasts;
            case 2: return world.valley.sunDays;
            case 3: return world.valley.sunYears;
            case 4: return tape.length;
            default: return NONE;
        }
    }

    private boolean hasBoth(int p, int q) {
        return world.valley.hasParish(p) && world.valley.hasParish(q);
    }

    /** A text is used up by being read, with a FAULT or without. */
    private void closeText() {
        faultKind = tape.faultKind;
        tape.length = 0;
    }

    /** Takes the tape as a letter's date, and empties it, be it one or not. */
    private boolean takeLetter() {
        boolean readable = tape.length == 3;
        for (int i = 0; i < 3; i++) {
            letter[i] = tape.bytes[i] & 255;
        }
        tape.length = 0;
        return readable;
    }

    /** Puts how it was ahead of the act behind the other ones; the oldest of too many is let go. */
    private void keepForUndo() {
        if (pastKept >= past.length) {
            Days oldest = past[0];
            for (int i = 1; i < past.length; i++) {
                past[i - 1] = past[i];
            }
            past[past.length - 1] = oldest;
            pastKept = past.length - 1;
        }
        past[pastKept].copyFrom(before);
        pastKept++;
    }

    private boolean fallsWhenDrawn(int f, int seed) {
        int x = seed;
        for (int i = 0; i < ODDS_DAYS && trial.day < LAST_DAY; i++) {
            x = trial.drawDay(x);
            if (world.fallsBy(trial, f)) {
                return true;
            }
        }
        return false;
    }

    /** The year of one PARISH. What divides is set by its own methods alone, which let nothing below 1 in. */
    private static final class Parish {
        private long name;
        private int start;
        private int months = 1;
        private int days = 1;
        private int week = 1;
        private int put;
        private int every = 1;

        Parish() {
        }

        /** It is told anew, so it has no 'leap' yet. */
        void tellName(long newName, int newStart) {
            name = newName;
            start = newStart;
            put = 0;
            every = 1;
        }

        void tellYear(int newMonths, int newDays, int newWeek) {
            months = Math.max(1, newMonths);
            days = Math.max(1, newDays);
            week = Math.max(1, newWeek);
        }

        void tellLeap(int newPut, int newEvery) {
            put = Math.max(0, newPut);
            every = Math.max(1, newEvery);
        }

        void copyFrom(Parish other) {
            name = other.name;
            months = other.months;
            days = other.days;
            week = other.week;
            put = other.put;
            every = other.every;
            start = other.start;
        }

        /** The YEARS come round in rows of EVERY, of which the first one has the days put in. */
        int yearAt(int count) {
            int plain = months * days;
            int row = plain * every + put;
            int rest = count % row;
            int year = count / row * every;
            return rest < plain + put ? year : year + 1 + (rest - plain - put) / plain;
        }

        int dayInYear(int count) {
            int plain = months * days;
            int rest = count % (plain * every + put);
            return rest < plain + put ? rest : (rest - plain - put) % plain;
        }

        int startOfYear(int year) {
            return year * months * days + put * longYearsAhead(year);
        }

        int longYearsAhead(int year) {
            return (year + every - 1) / every;
        }

        /** MONTH and DATE in one number. */
        int dateAt(int count) {
            int day = dayInYear(count);
            int plain = months * days;
            return day < plain ? day / days * DATES + day % days : months * DATES + day - plain;
        }

        boolean isBetween(int count) {
            return dayInYear(count) >= months * days;
        }

        int called(int count, int what) {
            switch (what) {
                case 0: return yearAt(count);
                case 1: return dateAt(count) / DATES;
                case 2: return dateAt(count) % DATES;
                default: return count % week;
            }
        }

        int countAt(int year, int month, int date) {
            if (year < 0 || year > LAST_YEAR || month < 0 || month > months || date < 0) {
                return NONE;
            }
            int last = month < months ? days : year % every == 0 ? put : 0;
            return date < last ? startOfYear(year) + month * days + date : NONE;
        }

        /** How many COUNTS up to this one have a MONTH and DATE that there is. */
        int timesUpTo(int count, int month, int date) {
            int year = yearAt(count);
            int times = month < months ? year : longYearsAhead(year);
            return dayInYear(count) >= month * days + date ? times + 1 : times;
        }

        /** The first COUNT from this one on that has a MONTH and DATE of each YEAR. */
        int countFrom(int count, int month, int date) {
            int place = month * days + date;
            int inYear = dayInYear(count);
            return inYear <= place ? count - inYear + place : startOfYear(yearAt(count) + 1) + place;
        }
    }

    private static final class Feast {
        long name;
        int parish;
        int month;
        int date;

        Feast() {
        }

        void copyFrom(Feast other) {
            name = other.name;
            parish = other.parish;
            month = other.month;
            date = other.date;
        }
    }

    /** What a VALLEY's text tells; it stays as it is while days go by. */
    private static final class Valley {
        final Parish[] parish = new Parish[MOST_PARISHES];
        final Feast[] feast = new Feast[MOST_FEASTS];
        int parishes;
        int feasts;
        int sunDays = 365;
        int sunYears = 1;
        boolean sunTold;

        Valley() {
            for (int p = 0; p < MOST_PARISHES; p++) {
                parish[p] = new Parish();
            }
            for (int f = 0; f < MOST_FEASTS; f++) {
                feast[f] = new Feast();
            }
        }

        boolean hasParish(int p) {
            return p >= 0 && p < parishes;
        }

        boolean hasFeast(int f) {
            return f >= 0 && f < feasts;
        }

        void copyFrom(Valley other) {
            for (int p = 0; p < MOST_PARISHES; p++) {
                parish[p].copyFrom(other.parish[p]);
            }
            for (int f = 0; f < MOST_FEASTS; f++) {
                feast[f].copyFrom(other.feast[f]);
            }
            parishes = other.parishes;
            feasts = other.feasts;
            sunDays = other.sunDays;
            sunYears = other.sunYears;
            sunTold = other.sunTold;
        }

        /** How many LINES there are; the tape tells whether there was a FAULT. */
        int readFrom(Tape tape) {
            parishes = 0;
            feasts = 0;
            sunDays = 365;
            sunYears = 1;
            sunTold = false;
            tape.open(VALLEY_BYTES);
            int lines = 0;
            while (lines < VALLEY_BYTES && tape.goesOn()) {
                readLine(tape);
                tape.takeSign(';');
                lines++;
            }
            return lines;
        }

        private void readLine(Tape tape) {
            if (tape.isAt(W_PARISH)) {
                readParish(tape);
            } else if (tape.isAt(W_LEAP)) {
                readLeap(tape);
            } else if (tape.isAt(W_FEAST)) {
                readFeast(tape);
            } else if (tape.isAt(W_SUN)) {
                readSun(tape);
            } else {
                tape.fail(NO_TOKEN);
            }
        }

        private void readParish(Tape tape) {
            if (parishes >= MOST_PARISHES) {
                tape.fail(TOO_MANY);
                return;
            }
            tape.advance();
            long name = takeNewName(tape);
            int months = tape.takeNumber(2, 13);
            int days = tape.takeNumber(2, 30);
            int week = tape.takeNumber(2, 9);
            parish[parishes].tellName(name, tape.takeNumber(0, 999));
            parish[parishes].tellYear(months, days, week);
            parishes++;
        }

        private void readLeap(Tape tape) {
            tape.advance();
            int p = parishAt(tape);
            if (!hasParish(p)) {
                return;
            }
            if (parish[p].put > 0) {
                tape.fail(BAD_NAME);
            }
            tape.advance();
            int put = tape.takeNumber(1, 9);
            parish[p].tellLeap(put, tape.takeNumber(1, 9));
        }

        private void readFeast(Tape tape) {
            if (feasts >= MOST_FEASTS) {
                tape.fail(TOO_MANY);
                return;
            }
            tape.advance();
            Feast told = feast[feasts];
            told.name = takeNewName(tape);
            told.parish = parishAt(tape);
            if (!hasParish(told.parish)) {
                return;
            }
            tape.advance();
            Parish keeper = parish[told.parish];
            told.month = tape.takeNumber(0, keeper.months - 1);
            told.date = tape.takeNumber(0, keeper.days - 1);
            feasts++;
        }

        private void readSun(Tape tape) {
            if (sunTold) {
                tape.fail(BAD_NAME);
            }
            tape.advance();
            sunTold = true;
            sunDays = tape.takeNumber(1, 999);
            sunYears = tape.takeNumber(1, 30);
        }

        private long takeNewName(Tape tape) {
            if (!tape.isAtName()) {
                tape.fail(NO_TOKEN);
            } else if (parishNamed(tape.word) != NONE || feastNamed(tape.word) != NONE) {
                tape.fail(BAD_NAME);
            }
            long name = tape.word;
            tape.advance();
            return name;
        }

        /** The PARISH that the TOKEN names, without going on; NONE, and a FAULT, if it names none. */
        int parishAt(Tape tape) {
            if (!tape.isAtName()) {
                tape.fail(NO_TOKEN);
                return NONE;
            }
            int p = parishNamed(tape.word);
            if (p == NONE) {
                tape.fail(BAD_NAME);
            }
            return p;
        }

        int feastAt(Tape tape) {
            if (!tape.isAtName()) {
                tape.fail(NO_TOKEN);
                return NONE;
            }
            int f = feastNamed(tape.word);
            if (f == NONE) {
                tape.fail(BAD_NAME);
            }
            return f;
        }

        private int parishNamed(long name) {
            for (int p = 0; p < parishes; p++) {
                if (parish[p].name == name) {
                    return p;
                }
            }
            return NONE;
        }

        private int feastNamed(long name) {
            for (int f = 0; f < feasts; f++) {
                if (feast[f].name == name) {
                    return f;
                }
            }
            return NONE;
        }
    }

    /** All that is so on a DAY and goes on with it. */
    private static final class Days {
        int day;
        int parishes;
        /** As bits. */
        int held;
        final int[] count = new int[MOST_PARISHES];
        final int[] heldSoFar = new int[MOST_PARISHES];
        final int[] skippedSoFar = new int[MOST_PARISHES];

        Days() {
        }

        void begin(Valley valley) {
            day = 0;
            held = 0;
            parishes = valley.parishes;
            for (int p = 0; p < MOST_PARISHES; p++) {
                count[p] = valley.parish[p].start;
                heldSoFar[p] = 0;
                skippedSoFar[p] = 0;
            }
        }

        void copyFrom(Days other) {
            day = other.day;
            held = other.held;
            parishes = other.parishes;
            for (int p = 0; p < MOST_PARISHES; p++) {
                count[p] = other.count[p];
                heldSoFar[p] = other.heldSoFar[p];
                skippedSoFar[p] = other.skippedSoFar[p];
            }
        }

        boolean isHeld(int p) {
            return (held >> p & 1) == 1;
        }

        int holdDay(int p) {
            if (isHeld(p)) {
                return 1;
            }
            held |= 1 << p;
            heldSoFar[p]++;
            return 0;
        }

        int skipDays(int p, int n) {
            if (count[p] + n > LAST_COUNT) {
                return 1;
            }
            count[p] += n;
            skippedSoFar[p] += n;
            return 0;
        }

        int daysLeft() {
            return LAST_DAY - day;
        }

        int passDays(int n) {
            int go = n < daysLeft() ? n : daysLeft();
            if (go <= 0) {
                return 0;
            }
            for (int p = 0; p < parishes; p++) {
                count[p] = countIn(p, go);
            }
            held = 0;
            day += go;
            return go;
        }

        /** The COUNT in k days, if no day is HELD or SKIPPED from now on. */
        int countIn(int p, int k) {
            return k > 0 && isHeld(p) ? count[p] + k - 1 : count[p] + k;
        }

        /** A DAY by draws: the seed behind it. */
        int drawDay(int seed) {
            int x = seed;
            for (int p = 0; p < parishes; p++) {
                x = x * 1103515245 + 12345;
                int draw = (x >>> 8) % 12;
                if (draw == 0) {
                    holdDay(p);
                } else if (draw == 1) {
                    x = x * 1103515245 + 12345;
                    skipDays(p, (x >>> 8) % 9 + 1);
                }
            }
            passDays(1);
            return x;
        }

        int heldInAll() {
            int all = 0;
            for (int p = 0; p < parishes; p++) {
                all += heldSoFar[p];
            }
            return all;
        }

        int skippedInAll() {
            int all = 0;
            for (int p = 0; p < parishes; p++) {
                all += skippedSoFar[p];
            }
            return all;
        }
    }

    /** What an image keeps: the VALLEY, all that is so, and the SENTENCE. */
    private static final class World {
        final Valley valley = new Valley();
        final Days days = new Days();
        final Sentence sentence = new Sentence();

        World() {
        }

        void begin(Valley read) {
            valley.copyFrom(read);
            days.begin(read);
            sentence.forget();
        }

        void copyFrom(World other) {
            valley.copyFrom(other.valley);
            days.copyFrom(other.days);
            sentence.copyFrom(other.sentence);
        }

        /** MONTH and DATE of a PARISH in k days, in one number. */
        int dateIn(int p, int k) {
            return valley.parish[p].dateAt(days.countIn(p, k));
        }

        boolean fallsOn(int f, int k) {
            Feast feast = valley.feast[f];
            return valley.hasParish(feast.parish)
                && dateIn(feast.parish, k) == feast.month * DATES + feast.date;
        }

        /** Whether a FEAST falls on the day of other DAYS than those that are so. */
        boolean fallsBy(Days other, int f) {
            Feast feast = valley.feast[f];
            return valley.hasParish(feast.parish)
                && valley.parish[feast.parish].dateAt(other.count[feast.parish]) == feast.month * DATES + feast.date;
        }

        /** In how many days, k at least, a FEAST falls. */
        int nextFrom(int f, int k) {
            Feast feast = valley.feast[f];
            int p = feast.parish;
            if (!valley.hasParish(p)) {
                return NONE;
            }
            int from = days.countIn(p, k);
            int wait = valley.parish[p].countFrom(from, feast.month, feast.date) - from;
            // Today's COUNT comes again tomorrow if the day is HELD: what lies behind it is a day later.
            return wait > 0 && k == 0 && days.isHeld(p) ? wait + 1 : k + wait;
        }

        int feastsToday() {
            int bits = 0;
            for (int f = 0; f < valley.feasts; f++) {
                if (fallsOn(f, 0)) {
                    bits |= 1 << f;
                }
            }
            return bits;
        }

        int firstWeekdays() {
            int bits = 0;
            for (int p = 0; p < valley.parishes; p++) {
                if (days.count[p] % valley.parish[p].week == 0) {
                    bits |= 1 << p;
                }
            }
            return bits;
        }

        int betweenToday() {
            int bits = 0;
            for (int p = 0; p < valley.parishes; p++) {
                if (valley.parish[p].isBetween(days.count[p])) {
                    bits |= 1 << p;
                }
            }
            return bits;
        }
    }

    /** What is reckoned of days ahead and back, and the second answer of each reckoning. */
    private static final class Almanac {
        int tuneDays = NONE;
        int agreeParish = NONE;
        int matchDay = NONE;
        int reformParish = NONE;
        int crowdDay = NONE;

        Almanac() {
        }

        int countFalls(World world, int f, int n) {
            Feast feast = world.valley.feast[f];
            int p = feast.parish;
            if (!world.valley.hasParish(p)) {
                return NONE;
            }
            Parish parish = world.valley.parish[p];
            int today = world.fallsOn(f, 0) ? 1 : 0;
            int ahead = parish.timesUpTo(world.days.countIn(p, n), feast.month, feast.date)
                - parish.timesUpTo(world.days.count[p], feast.month, feast.date);
            // A HELD day's COUNT comes again tomorrow, and its FEAST with it.
            int again = n > 0 && world.days.isHeld(p) ? today : 0;
            return today + again + ahead;
        }

        int findMeeting(World world, int f, int g) {
            int k = 0;
            for (int turn = 0; turn <= FAR; turn++) {
                int first = world.nextFrom(f, k);
                int second = world.nextFrom(g, first);
                if (first > FAR || second > FAR) {
                    return NONE;
                }
                if (first == second) {
                    return first;
                }
                k = second;
            }
            return NONE;
        }

        int findFair(World world, int set) {
            for (int k = 0; k <= ALL_WEEKS; k++) {
                if (isFair(world, set, k)) {
                    return k;
                }
            }
            return NONE;
        }

        private boolean isFair(World world, int set, int k) {
            for (int p = 0; p < world.valley.parishes; p++) {
                if ((set >> p & 1) == 1 && world.days.countIn(p, k) % world.valley.parish[p].week != 0) {
                    return false;
                }
            }
            return true;
        }

        int driftPart(Valley valley, int p, int what) {
            Parish parish = valley.parish[p];
            int inYears = parish.months * parish.days * parish.every + parish.put;
            int above = inYears * valley.sunYears - valley.sunDays * parish.every;
            int below = parish.every * valley.sunYears;
            int shared = shared(above, below);
            if (shared <= 0) {
                return NONE;
            }
            return what == 0 ? above / shared : below / shared;
        }

        /** The greatest number that divides both; the second one is above 0. */
        private static int shared(int above, int below) {
            int a = Math.abs(above);
            int b = below;
            for (int turn = 0; turn < 64 && a != 0; turn++) {
                int rest = b % a;
                b = a;
                a = rest;
            }
            return b;
        }

        int findTune(Valley valley, int p, int e) {
            int bestYears = 1;
            tuneDays = 0;
            int best = offBy(valley, p, 1, 0);
            for (int years = 1; years <= e; years++) {
                for (int put = 0; put <= 9; put++) {
                    int off = offBy(valley, p, years, put);
                    if (off * bestYears < best * years) {
                        best = off;
                        bestYears = years;
                        tuneDays = put;
                    }
                }
            }
            return bestYears;
        }

        /** By how much so many years would drift, in parts of a day as many as the sun has YEARS. */
        private static int offBy(Valley valley, int p, int years, int put) {
            Parish parish = valley.parish[p];
            int ours = (parish.months * parish.days * years + put) * valley.sunYears;
            return Math.abs(ours - valley.sunDays * years);
        }

        /** The fewest days that a PARISH must SKIP to come to the other one's date of today. */
        private static int skipsTo(World world, int p, int q) {
            int date = world.dateIn(q, 0);
            int count = world.days.count[p];
            for (int n = 0; n <= MOST_TO_AGREE; n++) {
                if (world.valley.parish[p].dateAt(count + n) == date) {
                    return n;
                }
            }
            return NONE;
        }

        int findAgreement(World world, int p, int q) {
            int byFirst = skipsTo(world, p, q);
            int bySecond = skipsTo(world, q, p);
            if (byFirst == NONE && bySecond == NONE) {
                return NONE;
            }
            if (bySecond == NONE || byFirst != NONE && byFirst <= bySecond) {
                agreeParish = p;
                return byFirst;
            }
            agreeParish = q;
            return bySecond;
        }

        int countMatches(World world, int p, int q, int n) {
            int found = 0;
            for (int k = 0; k <= n; k++) {
                if (world.dateIn(p, k) == world.dateIn(q, k)) {
                    if (found == 0) {
                        matchDay = k;
                    }
                    found++;
                }
            }
            return found;
        }

        int findReform(World world) {
            int best = NONE;
            for (int q = 0; q < world.valley.parishes; q++) {
                int all = skipsOfAllTo(world, q);
                if (all != NONE && (best == NONE || all < best)) {
                    best = all;
                    reformParish = q;
                }
            }
            return best;
        }

        private static int skipsOfAllTo(World world, int q) {
            int all = 0;
            for (int p = 0; p < world.valley.parishes; p++) {
                int skips = skipsTo(world, p, q);
                if (skips == NONE) {
                    return NONE;
                }
                all += skips;
            }
            return all;
        }

        /** Who leaves the other one a way that k and 1 more divides wins: there is one such move at most. */
        int findMove(World world, int p, int q, int k) {
            int way = skipsTo(world, p, q);
            int move = way < 0 ? 0 : way % (k + 1);
            return move == 0 ? NONE : move;
        }

        int findCrowd(World world, int n) {
            int best = NONE;
            for (int k = 0; k <= n; k++) {
                int falling = countFalling(world, k);
                if (falling > best) {
                    best = falling;
                    crowdDay = k;
                }
            }
            return best;
        }

        private static int countFalling(World world, int k) {
            int falling = 0;
            for (int f = 0; f < world.valley.feasts; f++) {
                if (world.fallsOn(f, k)) {
                    falling++;
                }
            }
            return falling;
        }

        int findWriters(World world, int[] letter) {
            int bits = 0;
            for (int p = 0; p < world.valley.parishes; p++) {
                if (isCalled(world.valley.parish[p], world.days.count[p], letter)) {
                    bits |= 1 << p;
                }
            }
            return bits;
        }

        int findAgo(World world, int p, int[] letter) {
            int count = world.days.count[p];
            for (int back = 0; back <= FAR_BACK && back <= count; back++) {
                if (isCalled(world.valley.parish[p], count - back, letter)) {
                    return back;
                }
            }
            return NONE;
        }

        private static boolean isCalled(Parish parish, int count, int[] letter) {
            for (int i = 0; i < letter.length; i++) {
                if (letter[i] != UNREAD && letter[i] != parish.called(count, i + 1)) {
                    return false;
                }
            }
            return true;
        }

        int countAge(World world, int p, int year, int month, int date) {
            Parish parish = world.valley.parish[p];
            int born = parish.countAt(year, month, date);
            int today = world.days.count[p];
            if (born == NONE || born > today) {
                return NONE;
            }
            return parish.timesUpTo(today, month, date) - parish.timesUpTo(born, month, date);
        }

        int findQuestion(World world) {
            int best = NONE;
            int fewest = world.valley.parishes;
            for (int what = 0; what < 3; what++) {
                int left = mostLeft(world, what + 1);
                if (left > 0 && (best == NONE || left < fewest)) {
                    best = what;
                    fewest = left;
                }
            }
            return best;
        }

        /** How many PARISHES call today the same, of what they say most. */
        private static int mostLeft(World world, int what) {
            int most = 0;
            for (int p = 0; p < world.valley.parishes; p++) {
                int own = world.valley.parish[p].called(world.days.count[p], what);
                int like = 0;
                for (int q = 0; q < world.valley.parishes; q++) {
                    if (world.valley.parish[q].called(world.days.count[q], what) == own) {
                        like++;
                    }
                }
                most = Math.max(most, like);
            }
            return most;
        }

        int findBirthday(World world, int p, int n) {
            Parish parish = world.valley.parish[p];
            int count = world.days.count[p];
            int step = parish.isBetween(count) ? parish.every : 1;
            // A HELD day's date comes again tomorrow: that is the first time.
            int late = world.days.isHeld(p) ? 1 : 0;
            int year = parish.yearAt(count) + (n - late) * step;
            int k = parish.startOfYear(year) + parish.dayInYear(count) - count + late;
            return k <= FAR ? k : NONE;
        }
    }

    /** The latest TITLE. */
    private static final class Title {
        final byte[] bytes = new byte[TITLE_BYTES];
        int length;

        Title() {
        }

        boolean has(int i) {
            return i >= 0 && i < length && i < bytes.length;
        }

        void write(World world, int p) {
            Parish parish = world.valley.parish[p];
            int count = world.days.count[p];
            length = 0;
            addName(parish.name);
            addText(" year ");
            addFigure(parish.called(count, 0));
            if (parish.isBetween(count)) {
                addText(" between ");
            } else {
                addText(" month ");
                addFigure(parish.called(count, 1));
                addText(" day ");
            }
            addFigure(parish.called(count, 2));
            if (world.days.isHeld(p)) {
                addText(" held");
            }
        }

        private void addByte(int b) {
            if (length < bytes.length) {
                bytes[length] = (byte) b;
                length++;
            }
        }

        private void addName(long name) {
            for (int shift = 48; shift >= 0; shift -= 8) {
                int b = (int) (name >> shift) & 255;
                if (b != 0) {
                    addByte(b);
                }
            }
        }

        private void addText(String text) {
            for (int i = 0; i < text.length(); i++) {
                addByte(text.charAt(i));
            }
        }

        private void addFigure(int figure) {
            for (int unit = 1000000; unit >= 1; unit /= 10) {
                if (figure >= unit || unit == 1) {
                    addByte('0' + figure / unit % 10);
                }
            }
        }
    }

    /** The bytes fed, and the TOKENS of them as a text; behind its first FAULT it goes no further. */
    private static final class Tape {
        final byte[] bytes = new byte[TAPE_BYTES];
        int length;
        private int most;
        private int start;
        private int behind;
        int kind;
        long word;
        int number;
        int faultKind;
        int faultPlace;

        Tape() {
        }

        boolean hasRoom(int n) {
            return length + n <= bytes.length;
        }

        /** Four bytes come, the highest first. */
        void addNumber(int a) {
            for (int shift = 24; shift >= 0 && length < bytes.length; shift -= 8) {
                bytes[length] = (byte) (a >> shift);
                length++;
            }
        }

        /** The text is read from its beginning, of at most so many bytes. */
        void open(int mostBytes) {
            most = mostBytes;
            behind = 0;
            faultKind = 0;
            faultPlace = 0;
            advance();
        }

        void advance() {
            if (faultKind != 0) {
                return;
            }
            start = behind;
            while (start < length && (bytes[start] == 32 || bytes[start] == 10)) {
                start++;
            }
            int last = Math.min(length, most);
            if (start >= last) {
                start = last;
                behind = last;
                kind = length > most ? AT_NOTHING : AT_END;
                return;
            }
            int letters = 0;
            int digits = 0;
            word = 0;
            number = 0;
            for (behind = start; behind < length; behind++) {
                int b = bytes[behind];
                if (b >= 'a' && b <= 'z') {
                    letters++;
                } else if (b >= '0' && b <= '9') {
                    digits++;
                } else {
                    break;
                }
                word = word << 8 | b;
                number = number * 10 + b - '0';
            }
            if (letters + digits == 0) {
                kind = kindOfSign(bytes[start]);
                behind = start + 1;
            } else if (digits == 0) {
                kind = letters <= 7 ? AT_WORD : AT_NOTHING;
            } else {
                kind = letters == 0 && digits <= 3 ? AT_NUMBER : AT_NOTHING;
            }
        }

        private static int kindOfSign(int b) {
            return b >= ';' && b <= '>' || b == '(' || b == ')' ? b : AT_NOTHING;
        }

        boolean goesOn() {
            return faultKind == 0 && kind != AT_END;
        }

        boolean isAt(long told) {
            return faultKind == 0 && kind == AT_WORD && word == told;
        }

        boolean isAtName() {
            if (kind != AT_WORD) {
                return false;
            }
            for (int i = 0; i < TOLD_WORDS.length; i++) {
                if (TOLD_WORDS[i] == word) {
                    return false;
                }
            }
            return true;
        }

        /** A FAULT at the TOKEN; the first one stays. */
        void fail(int fault) {
            if (faultKind == 0) {
                faultKind = fault;
                faultPlace = start;
            }
        }

        void takeSign(int sign) {
            if (kind != sign) {
                fail(NO_TOKEN);
            }
            advance();
        }

        /** A NUMBER within bounds, also behind a FAULT, so that what is read stays sound. */
        int takeNumber(int low, int high) {
            if (kind != AT_NUMBER) {
                fail(NO_TOKEN);
            } else if (number < low || number > high) {
                fail(BAD_NUMBER);
            }
            int taken = faultKind == 0 ? number : low;
            advance();
            return taken;
        }
    }

    /** The LINES of a BOOK, and what was told of the latest one that was judged. */
    private static final class Book {
        private static final int HOLDING = 1;
        private static final int SKIPPING = 11;
        private static final int TOO_FEW_DAYS = 21;

        /** NONE, if days go by. */
        private final int[] parish = new int[MOST_LINES];
        /** 0, if the PARISH holds. */
        private final int[] number = new int[MOST_LINES];
        private int lines;
        boolean judged;
        int why;
        int goodLines;
        int dayThen;
        int heldThen;

        Book() {
        }

        void readFrom(Tape tape, Valley valley) {
            tape.open(BOOK_BYTES);
            lines = 0;
            for (int turn = 0; turn <= MOST_LINES && tape.goesOn(); turn++) {
                readLine(tape, valley);
                tape.takeSign(';');
            }
        }

        private void readLine(Tape tape, Valley valley) {
            boolean days = tape.isAt(W_DAY);
            int p = days ? NONE : valley.parishAt(tape);
            if (!days && p == NONE) {
                return;
            }
            if (lines >= MOST_LINES) {
                tape.fail(TOO_MANY);
                return;
            }
            tape.advance();
            parish[lines] = p;
            number[lines] = days ? tape.takeNumber(1, MOST_AT_ONCE) : readDeed(tape);
            lines++;
        }

        private static int readDeed(Tape tape) {
            if (tape.isAt(W_SKIPS)) {
                tape.advance();
                return tape.takeNumber(1, MOST_SKIPPED);
            }
            if (!tape.isAt(W_HOLDS)) {
                tape.fail(NO_TOKEN);
            }
            tape.advance();
            return 0;
        }

        /** Lives as far as no LINE is WRONG: the LINE that is, or NONE. */
        int judge(Days days) {
            judged = true;
            why = 0;
            goodLines = 0;
            while (goodLines < lines && why == 0) {
                why = live(days, parish[goodLines], number[goodLines]);
                if (why == 0) {
                    goodLines++;
                }
            }
            dayThen = days.day;
            heldThen = days.held;
            return why == 0 ? NONE : goodLines;
        }

        private static int live(Days days, int p, int n) {
            if (p == NONE) {
                if (n > days.daysLeft()) {
                    return TOO_FEW_DAYS;
                }
                days.passDays(n);
                return 0;
            }
            if (n == 0) {
                return days.holdDay(p) == 0 ? 0 : HOLDING;
            }
            return days.skipDays(p, n) == 0 ? 0 : SKIPPING;
        }
    }

    /** A SENTENCE as steps, each behind those that it joins; without ONES there is none. */
    private static final class Sentence {
        private static final int NOT = 1;
        private static final int AND = 2;
        private static final int OR = 3;
        private static final int BETWEEN = 4;
        private static final int HELD = 5;
        private static final int KEEPS = 6;
        private static final int WITH = 7;
        /** From here on they are compared; the first four stand as Parish.called() numbers them. */
        private static final int YEAR = 8;
        private static final int MONTH = 9;
        private static final int DATE = 10;
        private static final int WEEK = 11;
        private static final int NUMBER = 12;
        /** Each ONE is a step or a bracket, and one step less joins them. */
        private static final int MOST_STEPS = 2 * MOST_ONES;

        private final int[] step = new int[MOST_STEPS];
        private final int[] sign = new int[MOST_STEPS];
        private final int[] value = new int[MOST_STEPS];
        private int steps;
        int ones;

        Sentence() {
        }

        void forget() {
            steps = 0;
            ones = 0;
        }

        void copyFrom(Sentence other) {
            for (int i = 0; i < MOST_STEPS; i++) {
                step[i] = other.step[i];
                sign[i] = other.sign[i];
                value[i] = other.value[i];
            }
            steps = other.steps;
            ones = other.ones;
        }

        void readFrom(Tape tape, Valley valley) {
            forget();
            tape.open(SENTENCE_BYTES);
            readCond(tape, valley, 1);
            if (tape.goesOn()) {
                tape.fail(NO_TOKEN);
            }
        }

        private void readCond(Tape tape, Valley valley, int depth) {
            readAll(tape, valley, depth);
            for (int turn = 0; turn <= MOST_ONES && tape.isAt(W_OR); turn++) {
                tape.advance();
                readAll(tape, valley, depth);
                add(OR, 0, 0);
            }
        }

        private void readAll(Tape tape, Valley valley, int depth) {
            readOne(tape, valley, depth);
            for (int turn = 0; turn <= MOST_ONES && tape.isAt(W_AND); turn++) {
                tape.advance();
                readOne(tape, valley, depth);
                add(AND, 0, 0);
            }
        }

        private void readOne(Tape tape, Valley valley, int depth) {
            int first = stepAt(tape);
            if (first == 0 && tape.kind != '(') {
                tape.fail(NO_TOKEN);
                return;
            }
            if (ones >= MOST_ONES || depth > MOST_WITHIN) {
                tape.fail(TOO_MANY);
                return;
            }
            ones++;
            tape.advance();
            if (first == 0) {
                readCond(tape, valley, depth + 1);
                tape.takeSign(')');
            } else if (first == NOT) {
                readOne(tape, valley, depth + 1);
                add(NOT, 0, 0);
            } else {
                readRest(tape, valley, first);
            }
        }

        private static int stepAt(Tape tape) {
            if (tape.isAt(W_NOT)) {
                return NOT;
            }
            if (tape.isAt(W_BETWEEN)) {
                return BETWEEN;
            }
            if (tape.isAt(W_HELD)) {
                return HELD;
            }
            if (tape.isAt(W_KEEPS)) {
                return KEEPS;
            }
            if (tape.isAt(W_WITH)) {
                return WITH;
            }
            return figureAt(tape);
        }

        private static int figureAt(Tape tape) {
            if (tape.isAt(W_YEAR)) {
                return YEAR;
            }
            if (tape.isAt(W_MONTH)) {
                return MONTH;
            }
            if (tape.isAt(W_DATE)) {
                return DATE;
            }
            if (tape.isAt(W_WEEK)) {
                return WEEK;
            }
            return tape.isAt(W_NUMBER) ? NUMBER : 0;
        }

        private void readRest(Tape tape, Valley valley, int first) {
            if (first == KEEPS || first == WITH) {
                add(first, 0, first == KEEPS ? valley.feastAt(tape) : valley.parishAt(tape));
                tape.advance();
            } else if (first >= YEAR) {
                int compared = tape.kind;
                if (compared != '<' && compared != '=' && compared != '>') {
                    tape.fail(NO_TOKEN);
                }
                tape.advance();
                add(first, compared, tape.takeNumber(0, 999));
            } else {
                add(first, 0, 0);
            }
        }

        private void add(int newStep, int newSign, int newValue) {
            if (steps < MOST_STEPS) {
                step[steps] = newStep;
                sign[steps] = newSign;
                value[steps] = newValue;
                steps++;
            }
        }

        /** What is not joined yet stands as bits, the latest one lowest: there are no more of them than ONES. */
        boolean isTrueOf(World world, int p) {
            int open = 0;
            for (int i = 0; i < steps; i++) {
                if (step[i] == NOT) {
                    open ^= 1;
                } else if (step[i] == AND) {
                    open = open >> 1 & (open | ~1);
                } else if (step[i] == OR) {
                    open = open >> 1 | open & 1;
                } else {
                    open = open << 1 | (isSo(i, world, p) ? 1 : 0);
                }
            }
            return (open & 1) == 1;
        }

        private boolean isSo(int i, World world, int p) {
            int told = value[i];
            switch (step[i]) {
                case BETWEEN:
                    return world.valley.parish[p].isBetween(world.days.count[p]);
                case HELD:
                    return world.days.isHeld(p);
                case KEEPS:
                    return world.valley.hasFeast(told) && world.valley.feast[told].parish == p
                        && world.fallsOn(told, 0);
                case WITH:
                    return world.valley.hasParish(told) && world.dateIn(told, 0) == world.dateIn(p, 0);
                case NUMBER:
                    return compare(p, sign[i], told);
                default:
                    return compare(world.valley.parish[p].called(world.days.count[p], step[i] - YEAR), sign[i], told);
            }
        }

        private static boolean compare(int figure, int compared, int told) {
            if (compared == '<') {
                return figure < told;
            }
            return compared == '>' ? figure > told : figure == told;
        }
    }
}
