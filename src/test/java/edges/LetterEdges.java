/**
 * Letters, ages, TITLES and odds: promises 31 to 37 and 39.
 *
 * Cases of these stand in AheadTest too, by number alone; each sentence has its own here.
 */
final class LetterEdges {
    /** a: MONTH 0, DATE 0, weekday 0; b: 1, 1, 1; c, on a day put in: 2, 0, 0. */
    private static final String THREE = "parish a 2 3 3 0;parish b 2 3 3 4;parish c 2 2 2 4;leap c 1 1;";

    private final Edges e;

    LetterEdges(Edges e) {
        this.e = e;
    }

    void run() {
        wrote();
        ago();
        agoNone();
        age();
        ageNone();
        ask();
        born();
        bornFar();
        title();
        byteAt();
        odds();
        oddsOfDays();
    }

    private void wrote() {
        e.of(31, "WROTE by the tape (3 bytes: MONTH, DATE, weekday; 255: not to be read): PARISHES of which today is called "
            + "so.");
        ParishYears x = Check.valleyOf(THREE);
        e.due("255 255 255", Check.wrote(x, 255, 255, 255), 7);
        e.due("0 255 255", Check.wrote(x, 0, 255, 255), 1);
        e.due("2 255 255", Check.wrote(x, 2, 255, 255), 4);
        e.due("255 0 255", Check.wrote(x, 255, 0, 255), 5);
        e.due("255 1 255", Check.wrote(x, 255, 1, 255), 2);
        e.due("255 255 0", Check.wrote(x, 255, 255, 0), 5);
        e.due("255 255 1", Check.wrote(x, 255, 255, 1), 2);
        e.due("1 1 1", Check.wrote(x, 1, 1, 1), 2);
        e.due("2 0 0", Check.wrote(x, 2, 0, 0), 4);
        x.hold(2);
        e.due("2 0 0 on a HELD day", Check.wrote(x, 2, 0, 0), 4);
        x.days(1);
        e.due("2 0 0 on the day behind it", Check.wrote(x, 2, 0, 0), 4);
        e.of(31, "WROTE: PARISHES, as bits;");
        e.due("nobody's MONTH", Check.wrote(x, 254, 255, 255), 0);
        e.due("nobody's DATE", Check.wrote(x, 255, 254, 255), 0);
        e.due("nobody's weekday", Check.wrote(x, 255, 255, 254), 0);
        e.due("128, which is no number below 0", Check.wrote(x, 128, 255, 255), 0);
        e.due("without PARISHES", Check.wrote(new ParishYears(), 255, 255, 255), 0);
        ParishYears five = Check.valleyOf("parish a 2 2 2 0;parish b 2 2 2 0;parish c 2 2 2 0;parish d 2 2 2 0;"
            + "parish e 13 30 9 389;");
        e.due("of five, the first four", Check.wrote(five, 0, 0, 0), 15);
        e.due("of five, the fifth", Check.wrote(five, 12, 29, 389 % 9), 16);
        e.of(31, "NONE: not as told.");
        e.due("no bytes", x.wrote(), -1);
        for (int bytes : new int[] {1, 2, 4, 20}) {
            x.feed(-1, -1, -1, -1, -1);
            x.end(bytes);
            e.due(bytes + " bytes", x.wrote(), -1);
            e.due("the tape behind it", x.count(4), 0);
        }
    }

    private void ago() {
        e.of(32, "AGO of a PARISH by such a tape: the fewest COUNTS back (0 to 9999, none below 0) at which a day was called "
            + "so there.");
        ParishYears x = Check.valleyOf("parish p 2 3 4 10;parish q 2 3 4 0;");
        // COUNT 10: MONTH 1, DATE 1, weekday 2
        e.due("today", Check.ago(x, 0, 1, 1, 2), 0);
        e.due("yesterday", Check.ago(x, 0, 1, 0, 1), 1);
        e.due("COUNT 4", Check.ago(x, 0, 1, 1, 0), 6);
        e.due("COUNT 0, by all three", Check.ago(x, 0, 0, 0, 0), 10);
        e.due("COUNT 6, by MONTH and DATE", Check.ago(x, 0, 0, 0, 255), 4);
        e.due("COUNT 8, by the weekday", Check.ago(x, 0, 255, 255, 0), 2);
        e.due("COUNT 8, by the DATE", Check.ago(x, 0, 255, 2, 255), 2);
        e.due("COUNT 8, by the MONTH", Check.ago(x, 0, 0, 255, 255), 2);
        e.due("by nothing", Check.ago(x, 0, 255, 255, 255), 0);
        e.due("none below 0", Check.ago(x, 1, 1, 255, 255), -1);
        e.due("of the other one", Check.ago(x, 1, 0, 0, 0), 0);
        // p's first day put in, COUNT 390, has weekday 5; the next such one comes 7 * 3519 COUNTS later
        ParishYears most = Late.valleyOn("parish p 13 30 7 389;leap p 9 9;parish q 13 30 7 390;leap q 9 9;", 10000);
        e.due("9999 back", Check.ago(most, 0, 13, 0, 5), 9999);
        e.due("10000 back", Check.ago(most, 1, 13, 0, 5), -1);
        x.hold(0);
        x.days(3);
        // COUNT 12
        e.due("COUNT 10 behind a HELD day", Check.ago(x, 0, 1, 1, 2), 2);
        x.skip(0, 20);
        e.due("COUNT 22 behind 20 SKIPPED", Check.ago(x, 0, 1, 1, 2), 10);
        e.of(32, "AGO of a PARISH: COUNTS back;");
        ParishYears first = Late.valleyOn("parish p 13 30 9 0;leap p 1 9;", 9999);
        e.due("by a YEAR's first day on weekday 0", Check.ago(first, 0, 0, 0, 0), firstBack(9999));
    }

    /** How far back from a COUNT the latest of the first days of YEARS of 390, and each ninth 391, of weekday 0 is. */
    private static int firstBack(int count) {
        int found = 0;
        int start = 0;
        for (int year = 0; start <= count; year++) {
            found = start % 9 == 0 ? start : found;
            start += year % 9 == 0 ? 391 : 390;
        }
        return count - found;
    }

    private void agoNone() {
        e.of(32, "NONE: none, not as told, no such one.");
        ParishYears x = Check.valleyOf("parish p 2 3 4 10;");
        e.due("none: MONTH 2", Check.ago(x, 0, 2, 255, 255), -1);
        e.due("none: DATE 3", Check.ago(x, 0, 255, 3, 255), -1);
        e.due("none: weekday 4", Check.ago(x, 0, 255, 255, 4), -1);
        e.due("none: 254", Check.ago(x, 0, 254, 255, 255), -1);
        e.due("no bytes", x.ago(0), -1);
        for (int bytes : new int[] {1, 2, 4, 20}) {
            x.feed(-1, -1, -1, -1, -1);
            x.end(bytes);
            e.due(bytes + " bytes", x.ago(0), -1);
            e.due("the tape behind it", x.count(4), 0);
        }
        e.due("ago(1)", Check.ago(x, 1, 255, 255, 255), -1);
        e.due("ago(-1)", Check.ago(x, -1, 255, 255, 255), -1);
        e.due("ago(most)", Check.ago(x, Integer.MAX_VALUE, 255, 255, 255), -1);
        e.due("ago(least)", Check.ago(x, Integer.MIN_VALUE, 255, 255, 255), -1);
        e.due("the tape behind it", x.count(4), 0);
        e.due("ago(0) of none", Check.ago(new ParishYears(), 0, 255, 255, 255), -1);
    }

    private void age() {
        e.of(33, "AGE by a date in a PARISH: of how many of its COUNTS behind that date's, today's at most, MONTH and DATE "
            + "are these.");
        ParishYears x = Check.valleyOf("parish p 2 3 3 11;parish q 2 2 2 48;leap q 9 9;");
        e.due("0 0 0 at COUNT 11", x.age(0, 0, 0, 0), 1);
        e.due("1 1 2, today", x.age(0, 1, 1, 2), 0);
        e.due("0 1 2", x.age(0, 0, 1, 2), 1);
        // q's days put in are 4 to 12, 49 to 57 ..
        e.due("0 2 0 at COUNT 48", x.age(1, 0, 2, 0), 0);
        e.due("0 0 0 at COUNT 48", x.age(1, 0, 0, 0), 9);
        x.days(1);
        e.due("0 0 0 at COUNT 12", x.age(0, 0, 0, 0), 2);
        e.due("1 0 0 at COUNT 12", x.age(0, 1, 0, 0), 1);
        e.due("2 0 0, today", x.age(0, 2, 0, 0), 0);
        e.due("0 2 0 at COUNT 49", x.age(1, 0, 2, 0), 1);
        e.due("0 2 1 at COUNT 49", x.age(1, 0, 2, 1), 0);
        e.due("9 2 0, today", x.age(1, 9, 2, 0), 0);
        x.hold(0);
        e.due("0 0 0 on a HELD day", x.age(0, 0, 0, 0), 2);
        x.days(1);
        e.due("0 0 0 on the day behind it", x.age(0, 0, 0, 0), 2);
        x.skip(0, 7);
        e.due("0 0 0 when COUNT 18 was SKIPPED", x.age(0, 0, 0, 0), 3);
        e.of(33, "AGE by a date (YEAR 0 to 999) in a PARISH;");
        ParishYears old = Late.valleyOn("parish p 2 2 2 0;", 4000);
        e.due("0 0 0 at COUNT 4000", old.age(0, 0, 0, 0), 1000);
        e.due("999 0 0", old.age(0, 999, 0, 0), 1);
        e.due("999 1 1", old.age(0, 999, 1, 1), 0);
        e.due("1000 0 0, which is today", old.age(0, 1000, 0, 0), -1);
        e.due("-1 0 0", old.age(0, -1, 0, 0), -1);
    }

    private void ageNone() {
        e.of(33, "NONE: there is none such, it is behind today's COUNT, no such one.");
        ParishYears x = Check.valleyOf("parish p 2 3 3 20;leap p 2 3;");
        // YEARS of 8, 6, 6, 8 days: 20 is DATE 0 of MONTH 0 of YEAR 3
        e.due("3 0 0, today", x.age(0, 3, 0, 0), 0);
        e.due("3 0 1, tomorrow", x.age(0, 3, 0, 1), -1);
        e.due("999 0 0", x.age(0, 999, 0, 0), -1);
        e.due("0 2 1", x.age(0, 0, 2, 1), 0);
        e.due("0 2 2", x.age(0, 0, 2, 2), -1);
        e.due("1 2 0", x.age(0, 1, 2, 0), -1);
        e.due("0 3 0", x.age(0, 0, 3, 0), -1);
        e.due("0 -1 0", x.age(0, 0, -1, 0), -1);
        e.due("0 0 3", x.age(0, 0, 0, 3), -1);
        e.due("0 0 -1", x.age(0, 0, 0, -1), -1);
        e.due("0 0 most", x.age(0, 0, 0, Integer.MAX_VALUE), -1);
        e.due("most 0 0", x.age(0, Integer.MAX_VALUE, 0, 0), -1);
        e.due("least 0 0", x.age(0, Integer.MIN_VALUE, 0, 0), -1);
        e.due("no PARISH", x.age(1, 0, 0, 0), -1);
        e.due("no PARISH", x.age(-1, 0, 0, 0), -1);
        e.due("none at all", new ParishYears().age(0, 0, 0, 0), -1);
    }

    private void asks(String text, int what) {
        e.due("ask() of " + text, Check.valleyOf(text).ask(), what);
    }

    private void ask() {
        e.of(34, "ASK: 0 the MONTH, 1 the DATE, 2 the weekday: by which of these of today the greatest number of all PARISHES "
            + "that may be left is the least (of like ones the first).");
        asks("parish a 5 2 2 0;parish b 5 2 2 2;parish c 5 2 2 4;", 0);
        asks("parish a 2 9 3 0;parish b 2 9 3 3;parish c 2 9 3 6;", 1);
        asks("parish a 2 2 9 0;parish b 2 2 9 4;parish c 2 2 9 8;", 2);
        // MONTHS 0 0 0, DATES 6 7 8, weekdays 0 1 2
        asks("parish a 2 9 3 6;parish b 2 9 3 7;parish c 2 9 3 8;", 1);
        // MONTHS 0 1 2, DATES 0 1 0, weekdays 0 3 4
        asks("parish a 5 2 9 0;parish b 5 2 9 3;parish c 5 2 9 4;", 0);
        // MONTHS 0 0 1 1, DATES 0 0 0 1, weekdays 0 0 0 1
        asks("parish a 5 2 2 0;parish b 5 2 2 0;parish c 5 2 2 2;parish d 5 2 2 3;", 0);
        // MONTHS 0 0 0 1 2, DATES 0 0 1 1 0, weekdays 0 4 5 3 4: three, three and two
        asks("parish a 4 2 9 0;parish b 2 2 9 4;parish c 2 2 9 5;parish d 4 2 9 3;parish e 4 2 9 4;", 2);
        asks("parish a 2 2 2 0;parish b 2 2 2 0;", 0);
        e.of(34, "ASK; NONE: there are no PARISHES.");
        asks("parish a 2 2 2 3;", 0);
        e.due("ask() of none", new ParishYears().ask(), -1);
        asks("", -1);
    }

    private void born() {
        e.of(35, "BORN: in how many days (today not counted) a PARISH has the same MONTH and DATE as today for the n-th time.");
        ParishYears x = Check.valleyOf("parish p 2 2 2 0;parish q 2 2 2 4;leap q 1 9;parish r 2 2 2 0;leap r 1 9;");
        e.due("born(0, 1)", x.born(0, 1), 4);
        e.due("born(0, 2)", x.born(0, 2), 8);
        // q's day put in comes each 37 days; r's YEARS have 5, 4, 4 .. days
        e.due("born(1, 1)", x.born(1, 1), 37);
        e.due("born(2, 1)", x.born(2, 1), 5);
        e.due("born(2, 2)", x.born(2, 2), 9);
        e.due("born(2, 9)", x.born(2, 9), 37);
        x.hold(0);
        x.hold(1);
        e.due("born(0, 1), HELD: tomorrow", x.born(0, 1), 1);
        e.due("born(0, 2), HELD", x.born(0, 2), 5);
        e.due("born(1, 2), HELD", x.born(1, 2), 38);
        e.of(35, "BORN for n (1 to 99): days;");
        e.due("born(0, 99), HELD", x.born(0, 99), 393);
        x.days(1);
        e.due("born(0, 99)", x.born(0, 99), 396);
        e.due("born(0, 100)", x.born(0, 100), -1);
        e.due("born(1, 99)", x.born(1, 99), 99 * 37);
    }

    /** p's day put in comes each 2439 days: for the 41st time in 99999. */
    private void bornFar() {
        e.of(35, "NONE: not in 99999, no such ones.");
        ParishYears x = Check.valleyOf("parish p 9 30 9 270;leap p 9 9;");
        e.due("born(0, 41)", x.born(0, 41), 99999);
        e.due("born(0, 42)", x.born(0, 42), -1);
        e.due("born(0, 99)", x.born(0, 99), -1);
        x.hold(0);
        e.due("born(0, 41), HELD", x.born(0, 41), 97561);
        e.due("born(0, 42), HELD: in 100000", x.born(0, 42), -1);
        e.due("born(0, 0)", x.born(0, 0), -1);
        e.due("born(0, 100)", x.born(0, 100), -1);
        e.due("born(0, -1)", x.born(0, -1), -1);
        e.due("born(0, most)", x.born(0, Integer.MAX_VALUE), -1);
        e.due("born(0, least)", x.born(0, Integer.MIN_VALUE), -1);
        e.due("born(1, 1)", x.born(1, 1), -1);
        e.due("born(-1, 1)", x.born(-1, 1), -1);
        e.due("born(0, 1) of none", new ParishYears().born(0, 1), -1);
    }

    private void titled(ParishYears x, int p, String want) {
        String got = Check.titleText(x, p);
        e.due("'" + got + "' for '" + want + "'", got.equals(want), true);
        e.due("bytes of '" + want + "'", x.title(p), want.length());
    }

    private void title() {
        e.of(36, "TITLE of a PARISH: its NAME, ' year ' and the YEAR, then ' month ' and the MONTH, ' day ' and the DATE as "
            + "digits, or, on days put in, ' between ' and the DATE; ' held' behind it, if it is.");
        ParishYears x = Check.valleyOf("parish p 2 2 2 0;leap p 9 9;parish village 13 30 9 389;");
        titled(x, 0, "p year 0 month 0 day 0");
        titled(x, 1, "village year 0 month 12 day 29");
        x.hold(0);
        x.hold(1);
        titled(x, 0, "p year 0 month 0 day 0 held");
        titled(x, 1, "village year 0 month 12 day 29 held");
        x.days(1);
        titled(x, 0, "p year 0 month 0 day 0");
        x.days(4);
        titled(x, 0, "p year 0 between 0");
        x.days(8);
        titled(x, 0, "p year 0 between 8");
        x.hold(0);
        titled(x, 0, "p year 0 between 8 held");
        x.days(2);
        titled(x, 0, "p year 1 month 0 day 0");
        titled(x, 1, "village year 1 month 0 day 13");
        ParishYears tens = Check.valleyOf("parish p 13 30 9 40;parish q 13 30 9 310;parish r 2 2 2 0;");
        titled(tens, 0, "p year 0 month 1 day 10");
        titled(tens, 1, "q year 0 month 10 day 10");
        tens.days(40);
        titled(tens, 2, "r year 10 month 0 day 0");
        tens.days(360);
        titled(tens, 2, "r year 100 month 0 day 0");
        Late.goTo(tens, 4000);
        titled(tens, 2, "r year 1000 month 0 day 0");
        tens.days(4);
        titled(tens, 2, "r year 1001 month 0 day 0");
        e.of(36, "TITLE of a PARISH: how many bytes;");
        ParishYears late = Check.valleyOf("parish village 2 2 2 999;");
        for (int i = 0; i < 90; i++) {
            late.skip(0, 99);
        }
        late.skip(0, 90);
        titled(late, 0, "village year 2499 month 1 day 1");
        Late.goTo(late, 10000);
        late.hold(0);
        titled(late, 0, "village year 4999 month 1 day 1 held");
        e.of(36, "NONE: no such one.");
        e.due("title(2)", x.title(2), -1);
        e.due("title(-1)", x.title(-1), -1);
        e.due("title(most)", x.title(Integer.MAX_VALUE), -1);
        e.due("title(least)", x.title(Integer.MIN_VALUE), -1);
        e.due("title(0) of none", new ParishYears().title(0), -1);
    }

    private void byteAt() {
        e.of(37, "Byte i of the latest TITLE;");
        ParishYears x = Check.valleyOf("parish village 2 2 2 0;parish q 2 2 2 1;");
        x.title(0);
        e.due("byteAt(0)", x.byteAt(0), 'v');
        e.due("byteAt(7)", x.byteAt(7), ' ');
        e.due("byteAt(27), the last", x.byteAt(27), '0');
        x.title(1);
        e.due("byteAt(0)", x.byteAt(0), 'q');
        e.due("byteAt(21), the last", x.byteAt(21), '1');
        x.title(2);
        x.days(1);
        Check.valley(x, "");
        e.due("byteAt(0) of the latest still", x.byteAt(0), 'q');
        e.due("byteAt(21) of the latest still", x.byteAt(21), '1');
        e.of(37, "NONE: none such.");
        e.due("byteAt(22)", x.byteAt(22), -1);
        e.due("byteAt(27), of the one before", x.byteAt(27), -1);
        e.due("byteAt(-1)", x.byteAt(-1), -1);
        e.due("byteAt(64)", x.byteAt(64), -1);
        e.due("byteAt(most)", x.byteAt(Integer.MAX_VALUE), -1);
        e.due("byteAt(least)", x.byteAt(Integer.MIN_VALUE), -1);
        ParishYears none = Check.valleyOf("parish p 2 2 2 0;");
        e.due("byteAt(0) ahead of any", none.byteAt(0), -1);
        none.title(1);
        e.due("byteAt(0) behind a NONE", none.byteAt(0), -1);
    }

    private static ParishYears feastAt(int count) {
        return Check.valleyOf("parish p 13 30 9 0;feast f p " + count / 30 + " " + count % 30 + ";");
    }

    private void odds() {
        e.of(39, "Of n (1 to 30) seeds x, x and 1, ..");
        for (int seed : new int[] {0, 1, -15, Integer.MAX_VALUE, Integer.MAX_VALUE - 14, Integer.MIN_VALUE}) {
            for (int n : new int[] {1, 2, 30}) {
                int found = 0;
                for (int i = 0; i < n; i++) {
                    boolean falls = false;
                    for (int count : Draws.counts(seed + i, 0, 40)) {
                        falls |= count == 61;
                    }
                    found += falls ? 1 : 0;
                }
                e.due("odds(0, " + n + ", " + seed + ")", feastAt(61).odds(0, n, seed), found);
            }
        }
        int some = feastAt(61).odds(0, 30, 0);
        e.due("some, and not all", some > 0 && some < 30, true);
        e.of(39, "NONE: no such ones.");
        ParishYears x = feastAt(0);
        e.due("odds(0, 0, 1)", x.odds(0, 0, 1), -1);
        e.due("odds(0, 31, 1)", x.odds(0, 31, 1), -1);
        e.due("odds(0, -1, 1)", x.odds(0, -1, 1), -1);
        e.due("odds(0, most, 1)", x.odds(0, Integer.MAX_VALUE, 1), -1);
        e.due("odds(0, least, 1)", x.odds(0, Integer.MIN_VALUE, 1), -1);
        e.due("odds(1, 1, 1)", x.odds(1, 1, 1), -1);
        e.due("odds(-1, 1, 1)", x.odds(-1, 1, 1), -1);
        e.due("odds(0, 1, 1) of none", new ParishYears().odds(0, 1, 1), -1);
    }

    private void oddsOfDays() {
        e.of(39, "by how many a FEAST falls behind one, at least, of 40 DAYS DRAWN from now on;");
        int seed = 0;
        int[] counts = Draws.counts(seed, 0, 41);
        while (counts[39] == counts[38] || counts[40] == counts[39] || counts[0] != 1) {
            seed++;
            counts = Draws.counts(seed, 0, 41);
        }
        e.due("behind the first DAY", feastAt(counts[0]).odds(0, 1, seed), 1);
        e.due("behind the 40th DAY", feastAt(counts[39]).odds(0, 1, seed), 1);
        e.due("behind the 41st DAY", feastAt(counts[40]).odds(0, 1, seed), 0);
        e.due("today alone", feastAt(0).odds(0, 1, seed), 0);
        ParishYears held = feastAt(0);
        held.hold(0);
        e.due("today and, as it is HELD, tomorrow", held.odds(0, 1, seed), 1);
        e.due("HELD still", held.now(1), 1);
        e.due("the DAY", held.now(0), 0);
        e.due("COUNT", held.parish(0, 5), 0);
        e.due("undo(): hold() alone", held.undo(), 0);
        e.due("odds(0, 1, ..) by a HELD day", feastAt(0).odds(0, 1, Draws.seedOf(0)), 1);
    }
}
