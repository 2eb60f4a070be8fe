/**
 * What the days are called: promises 6 to 10.
 *
 * Cases of these stand in CalendarTest too, by number alone; each sentence has its own here.
 */
final class YearEdges {
    /** oak's YEARS 0, 2, 4 .. have 8 days, the other ones 6; elm's have 6 days each. */
    private static final String VALLEY = "parish oak 2 3 3 0;leap oak 2 2;parish elm 3 2 2 1;"
        + "feast wake oak 1 2;feast yule elm 0 0;sun 13 2;";

    private final Edges e;

    YearEdges(Edges e) {
        this.e = e;
    }

    void run() {
        years();
        parish();
        at();
        countOf();
        feast();
        now();
    }

    private void called(ParishYears x, int p, int k, int year, int month, int date) {
        e.due("YEAR of PARISH " + p + " in " + k, x.at(p, k, 0), year);
        e.due("MONTH of PARISH " + p + " in " + k, x.at(p, k, 1), month);
        e.due("DATE of PARISH " + p + " in " + k, x.at(p, k, 2), date);
    }

    private void years() {
        e.of(7, "Each PARISH counts its days: COUNT 0 is DATE 0 of MONTH 0 of the YEAR 0.");
        ParishYears x = Check.valleyOf("parish p 2 2 2 0;leap p 9 9;parish q 13 30 9 1;");
        called(x, 0, 0, 0, 0, 0);
        called(x, 1, -1, 0, 0, 0);
        called(x, 1, 0, 0, 0, 1);
        e.due("countOf(0, 0, 0, 0)", x.countOf(0, 0, 0, 0), 0);
        x.days(3);
        called(x, 0, -3, 0, 0, 0);
        called(x, 1, -4, 0, 0, 0);
        e.of(7, "A YEAR has MONTHS of DAYS days, then, if its number is divided by EVERY, the N days of its 'leap', "
            + "which are MONTH 'MONTHS' (one more), DATE 0 and on.");
        ParishYears y = Check.valleyOf("parish p 2 3 2 0;leap p 9 3;parish q 2 3 2 0;leap q 1 1;parish r 13 30 2 0;");
        // p's YEARS have 15, 6, 6, 15, 6, 6 .. days
        called(y, 0, 2, 0, 0, 2);
        called(y, 0, 3, 0, 1, 0);
        called(y, 0, 5, 0, 1, 2);
        called(y, 0, 6, 0, 2, 0);
        called(y, 0, 14, 0, 2, 8);
        called(y, 0, 15, 1, 0, 0);
        called(y, 0, 20, 1, 1, 2);
        called(y, 0, 21, 2, 0, 0);
        called(y, 0, 26, 2, 1, 2);
        called(y, 0, 27, 3, 0, 0);
        called(y, 0, 33, 3, 2, 0);
        called(y, 0, 41, 3, 2, 8);
        called(y, 0, 42, 4, 0, 0);
        // q's have 7 days each
        called(y, 1, 6, 0, 2, 0);
        called(y, 1, 7, 1, 0, 0);
        called(y, 1, 13, 1, 2, 0);
        called(y, 1, 14, 2, 0, 0);
        // r's have 390
        called(y, 2, 389, 0, 12, 29);
        called(y, 2, 390, 1, 0, 0);
        called(y, 2, 99999, 256, 5, 9);
        ParishYears ninth = Check.valleyOf("parish p 2 2 2 0;leap p 1 9;");
        // 37 days in nine YEARS
        called(ninth, 0, 4, 0, 2, 0);
        called(ninth, 0, 36, 8, 1, 1);
        called(ninth, 0, 37, 9, 0, 0);
        called(ninth, 0, 41, 9, 2, 0);
        called(ninth, 0, 42, 10, 0, 0);
        e.of(7, "The weekday is the COUNT modulo its WEEK.");
        ParishYears z = Check.valleyOf("parish p 2 2 2 999;parish q 2 2 9 999;");
        e.due("999 modulo 2", z.at(0, 0, 3), 1);
        e.due("1000 modulo 2", z.at(0, 1, 3), 0);
        e.due("999 modulo 9", z.at(1, 0, 3), 0);
        e.due("998 modulo 9", z.at(1, -1, 3), 8);
        e.due("0 modulo 9", z.at(1, -999, 3), 0);
        z.hold(0);
        z.days(1);
        e.due("999 modulo 2 behind a HELD day", z.at(0, 0, 3), 1);
        z.skip(1, 5);
        e.due("1005 modulo 9 behind 5 SKIPPED", z.at(1, 0, 3), 6);
    }

    private void parish() {
        e.of(6, "Of a PARISH: 0 MONTHS, 1 DAYS, 2 WEEK, 3 days of its 'leap' (0), 4 EVERY (1 without), 5 COUNT,");
        ParishYears x = Check.valleyOf("parish p 13 30 9 999;leap p 9 8;parish q 2 3 4 0;");
        int[] p = {13, 30, 9, 9, 8, 999, 0, 0, 0};
        int[] q = {2, 3, 4, 0, 1, 0, 0, 0, 0};
        for (int what = 0; what < 9; what++) {
            e.due("parish(0, " + what + ")", x.parish(0, what), p[what]);
            e.due("parish(1, " + what + ")", x.parish(1, what), q[what]);
        }
        e.of(6, "6 HELD (1, 0), 7 days HELD so far (each from when it is HELD on), 8 days SKIPPED so far.");
        x.hold(1);
        e.due("HELD", x.parish(1, 6), 1);
        e.due("HELD of the other one", x.parish(0, 6), 0);
        e.due("days HELD from then on", x.parish(1, 7), 1);
        x.hold(1);
        e.due("days HELD, a hold() refused", x.parish(1, 7), 1);
        x.days(1);
        e.due("HELD no more", x.parish(1, 6), 0);
        e.due("days HELD so far", x.parish(1, 7), 1);
        x.days(5);
        x.hold(1);
        e.due("days HELD so far", x.parish(1, 7), 2);
        x.skip(1, 99);
        x.skip(1, 1);
        x.skip(1, 100);
        e.due("days SKIPPED so far", x.parish(1, 8), 100);
        e.due("days SKIPPED of the other one", x.parish(0, 8), 0);
        e.due("COUNT", x.parish(1, 5), 105);
        e.of(6, "NoSuchElementException: no such ones.");
        e.throwsNoSuchElement("parish(2, 0)", () -> x.parish(2, 0));
        e.throwsNoSuchElement("parish(-1, 0)", () -> x.parish(-1, 0));
        e.throwsNoSuchElement("parish(0, 9)", () -> x.parish(0, 9));
        e.throwsNoSuchElement("parish(0, -1)", () -> x.parish(0, -1));
        e.throwsNoSuchElement("parish(most, 0)", () -> x.parish(Integer.MAX_VALUE, 0));
        e.throwsNoSuchElement("parish(least, 0)", () -> x.parish(Integer.MIN_VALUE, 0));
        e.throwsNoSuchElement("parish(0, most)", () -> x.parish(0, Integer.MAX_VALUE));
        e.throwsNoSuchElement("parish(0, least)", () -> x.parish(0, Integer.MIN_VALUE));
        e.throwsNoSuchElement("parish(0, 0) of none", () -> new ParishYears().parish(0, 0));
        e.of(6, "A call that throws changes nothing.");
        Check.tape(x, "held");
        e.throwsNoSuchElement("parish(2, 0)", () -> x.parish(2, 0));
        e.throwsNoSuchElement("drift(0, 2)", () -> x.drift(0, 2));
        e.due("the DAY", x.now(0), 6);
        e.due("HELD", x.now(1), 2);
        e.due("the tape", x.count(4), 4);
        e.due("fault()", x.fault(), 0);
        e.due("COUNT", x.parish(1, 5), 105);
        e.due("undo()", x.undo(), 5);
    }

    private void at() {
        e.of(7, "What the day in k days (-9999 to 99999;");
        ParishYears x = Check.valleyOf("parish p 2 2 7 0;");
        e.due("at(0, 99999, 0)", x.at(0, 99999, 0), 24999);
        e.due("at(0, 100000, 0)", x.at(0, 100000, 0), -1);
        e.due("at(0, most, 0)", x.at(0, Integer.MAX_VALUE, 0), -1);
        Late.goTo(x, 9999);
        e.due("at(0, -9999, 0)", x.at(0, -9999, 0), 0);
        e.due("at(0, -9999, 2)", x.at(0, -9999, 2), 0);
        x.days(1);
        e.due("at(0, -9999, 2) of COUNT 10000", x.at(0, -9999, 2), 1);
        e.due("at(0, -10000, 2) of COUNT 10000", x.at(0, -10000, 2), -1);
        e.due("at(0, least, 0)", x.at(0, Integer.MIN_VALUE, 0), -1);
        ParishYears far = Check.valleyOf("parish p 2 2 7 999;");
        Late.goTo(far, 10000);
        // COUNT 110998
        e.due("at(0, 99999, 0) of COUNT 10999", far.at(0, 99999, 0), 27749);
        e.due("at(0, 99999, 1)", far.at(0, 99999, 1), 1);
        e.due("at(0, 99999, 2)", far.at(0, 99999, 2), 0);
        e.due("at(0, 99999, 3)", far.at(0, 99999, 3), 110998 % 7);
        e.of(7, "as if the COUNT went on by one each day, HELD no matter)");
        ParishYears y = Check.valleyOf(VALLEY);
        y.hold(0);
        e.due("tomorrow's DATE", y.at(0, 1, 2), 1);
        e.due("today's DATE", y.at(0, 0, 2), 0);
        e.due("DATE in 5 days", y.at(0, 5, 2), 2);
        y.days(4);
        y.hold(0);
        e.due("yesterday's DATE", y.at(0, -1, 2), 2);
        e.due("MONTH 3 days ago", y.at(0, -3, 1), 0);
        e.due("4 days ago, by COUNTS", y.at(0, -4, 0), -1);
        e.of(7, "is called in a PARISH: 0 YEAR, 1 MONTH, 2 DATE, 3 weekday.");
        ParishYears z = Check.valleyOf(VALLEY);
        int[] oak = {0, 2, 1, 1};
        int[] elm = {1, 1, 0, 0};
        for (int what = 0; what < 4; what++) {
            e.due("at(0, 7, " + what + ")", z.at(0, 7, what), oak[what]);
            e.due("at(1, 7, " + what + ")", z.at(1, 7, what), elm[what]);
        }
        e.of(7, "NONE: its COUNT would be below 0, no such ones.");
        for (int what = 0; what < 4; what++) {
            e.due("at(0, -1, " + what + ") of COUNT 0", z.at(0, -1, what), -1);
            e.due("at(1, -1, " + what + ") of COUNT 1", z.at(1, -1, what), 0);
            e.due("at(1, -2, " + what + ") of COUNT 1", z.at(1, -2, what), -1);
        }
        e.due("at(0, 0, 4)", z.at(0, 0, 4), -1);
        e.due("at(0, 0, -1)", z.at(0, 0, -1), -1);
        e.due("at(2, 0, 0)", z.at(2, 0, 0), -1);
        e.due("at(-1, 0, 0)", z.at(-1, 0, 0), -1);
        e.due("at(0, 0, 0) of none", new ParishYears().at(0, 0, 0), -1);
    }

    private void countOf() {
        e.of(8, "The COUNT of a date;");
        ParishYears x = Check.valleyOf("parish p 2 3 2 0;leap p 9 3;parish q 13 30 9 5;leap q 9 1;");
        e.due("0 0 0", x.countOf(0, 0, 0, 0), 0);
        e.due("0 1 2", x.countOf(0, 0, 1, 2), 5);
        e.due("0 2 0", x.countOf(0, 0, 2, 0), 6);
        e.due("0 2 8", x.countOf(0, 0, 2, 8), 14);
        e.due("1 0 0", x.countOf(0, 1, 0, 0), 15);
        e.due("3 2 8", x.countOf(0, 3, 2, 8), 41);
        // 333 rows of 27 days
        e.due("999 0 0", x.countOf(0, 999, 0, 0), 8991);
        e.due("999 2 8", x.countOf(0, 999, 2, 8), 9005);
        e.due("999 13 8", x.countOf(1, 999, 13, 8), 399 * 1000 - 1);
        x.days(40);
        x.hold(0);
        e.due("0 1 2, 40 days later", x.countOf(0, 0, 1, 2), 5);
        e.of(8, "NONE: there is none such (YEARS from 0 to 999), no such PARISH.");
        e.due("1000 0 0", x.countOf(0, 1000, 0, 0), -1);
        e.due("-1 0 0", x.countOf(0, -1, 0, 0), -1);
        e.due("least 0 0", x.countOf(0, Integer.MIN_VALUE, 0, 0), -1);
        e.due("most 0 0", x.countOf(0, Integer.MAX_VALUE, 0, 0), -1);
        e.due("0 -1 0", x.countOf(0, 0, -1, 0), -1);
        e.due("0 3 0", x.countOf(0, 0, 3, 0), -1);
        e.due("0 most 0", x.countOf(0, 0, Integer.MAX_VALUE, 0), -1);
        e.due("0 0 -1", x.countOf(0, 0, 0, -1), -1);
        e.due("0 0 3", x.countOf(0, 0, 0, 3), -1);
        e.due("0 0 most", x.countOf(0, 0, 0, Integer.MAX_VALUE), -1);
        e.due("0 1 least", x.countOf(0, 0, 1, Integer.MIN_VALUE), -1);
        e.due("0 2 9, of 9 days put in", x.countOf(0, 0, 2, 9), -1);
        e.due("1 2 0, in a YEAR without", x.countOf(0, 1, 2, 0), -1);
        e.due("no PARISH", x.countOf(2, 0, 0, 0), -1);
        e.due("no PARISH", x.countOf(-1, 0, 0, 0), -1);
        ParishYears y = Check.valleyOf("parish p 2 3 2 0;");
        e.due("0 2 0, in a PARISH without 'leap'", y.countOf(0, 0, 2, 0), -1);
    }

    private void feast() {
        e.of(9, "Of a FEAST: 0 PARISH, 1 MONTH, 2 DATE, 3 it falls today (1, 0).");
        ParishYears x = Check.valleyOf("parish a 2 2 2 0;parish p 13 30 9 0;feast f p 12 29;feast g a 0 1;");
        int[] f = {1, 12, 29, 0};
        int[] g = {0, 0, 1, 0};
        for (int what = 0; what < 4; what++) {
            e.due("feast(0, " + what + ")", x.feast(0, what), f[what]);
            e.due("feast(1, " + what + ")", x.feast(1, what), g[what]);
        }
        x.days(1);
        e.due("feast(1, 3) on its day", x.feast(1, 3), 1);
        x.days(1);
        e.due("feast(1, 3) a day later", x.feast(1, 3), 0);
        x.days(387);
        e.due("feast(0, 3) on the YEAR's last day", x.feast(0, 3), 1);
        e.of(9, "A FEAST falls, when its PARISH has its MONTH and DATE (on a HELD day, too).");
        ParishYears y = Check.valleyOf(VALLEY);
        y.days(5);
        y.hold(0);
        e.due("feast(0, 3) on its HELD day", y.feast(0, 3), 1);
        y.days(1);
        e.due("feast(0, 3) on the day behind it", y.feast(0, 3), 1);
        e.due("feast(1, 3), of the other PARISH", y.feast(1, 3), 0);
        y.days(1);
        e.due("feast(0, 3) then", y.feast(0, 3), 0);
        y.skip(0, 7);
        e.due("feast(0, 3) by SKIPPING to it", y.feast(0, 3), 1);
        e.of(9, "NONE: no such ones.");
        e.due("feast(2, 0)", y.feast(2, 0), -1);
        e.due("feast(-1, 0)", y.feast(-1, 0), -1);
        e.due("feast(0, 4)", y.feast(0, 4), -1);
        e.due("feast(0, -1)", y.feast(0, -1), -1);
        e.due("feast(most, 0)", y.feast(Integer.MAX_VALUE, 0), -1);
        e.due("feast(0, least)", y.feast(0, Integer.MIN_VALUE), -1);
        e.due("feast(0, 0) of none", new ParishYears().feast(0, 0), -1);
    }

    private void now() {
        e.of(10, "0 the DAY, 1 HELD PARISHES, 2 FEASTS that fall today, 3 PARISHES whose weekday is 0 today, "
            + "4 those whose day is of the days put in, as bits each, 5 days HELD, 6 SKIPPED so far in all.");
        ParishYears x = Check.valleyOf("parish a 2 2 2 0;parish b 2 2 3 4;parish c 2 2 4 8;parish d 2 2 5 4;"
            + "parish e 2 2 6 12;leap b 1 1;leap e 4 4;feast f a 0 0;feast g b 0 0;feast h c 0 0;feast i d 0 0;"
            + "feast j e 0 0;feast k c 0 0;");
        // COUNTS 0 4 8 4 12; b's 4 is put in, e's YEARS have 8, 4, 4, 4 days
        e.due("now(0)", x.now(0), 0);
        e.due("now(1)", x.now(1), 0);
        e.due("now(2)", x.now(2), 1 | 4 | 8 | 16 | 32);
        e.due("now(3)", x.now(3), 1 | 4 | 16);
        e.due("now(4)", x.now(4), 2);
        e.due("now(5)", x.now(5), 0);
        e.due("now(6)", x.now(6), 0);
        x.hold(4);
        x.hold(0);
        x.skip(4, 12);
        x.skip(1, 1);
        // e's COUNT 24 is of its YEAR 4, whose days put in are 24 to 27
        e.due("now(1)", x.now(1), 17);
        e.due("now(2)", x.now(2), 1 | 2 | 4 | 8 | 32);
        e.due("now(3)", x.now(3), 1 | 4 | 16);
        e.due("now(4)", x.now(4), 16);
        e.due("now(5)", x.now(5), 2);
        e.due("now(6)", x.now(6), 13);
        x.skip(0, 5);
        x.hold(2);
        // a's COUNT 5 is DATE 1 of MONTH 0, weekday 1
        e.due("now(1)", x.now(1), 21);
        e.due("now(2)", x.now(2), 2 | 4 | 8 | 32);
        e.due("now(3)", x.now(3), 4 | 16);
        e.due("now(5)", x.now(5), 3);
        e.due("now(6)", x.now(6), 18);
        ParishYears first = Check.valleyOf("parish a 2 2 3 4;leap a 1 1;parish b 2 2 2 1;feast f b 0 0;");
        e.due("now(2), none", first.now(2), 0);
        e.due("now(3), none", first.now(3), 0);
        e.due("now(4), the first", first.now(4), 1);
        Late.goTo(x, 10000);
        e.due("now(0) when all are over", x.now(0), 10000);
        e.due("now(1) then", x.now(1), 0);
        e.due("now(5) then", x.now(5), 3);
        e.of(10, "NONE for another what.");
        e.due("now(7)", x.now(7), -1);
        e.due("now(-1)", x.now(-1), -1);
        e.due("now(most)", x.now(Integer.MAX_VALUE), -1);
        e.due("now(least)", x.now(Integer.MIN_VALUE), -1);
    }
}
