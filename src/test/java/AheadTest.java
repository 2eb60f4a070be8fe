/** Promises 15 to 37 and 39: what is reckoned of days ahead and back. */
public final class AheadTest {
    private static final Check check = new Check();
    /**
     * oak's wake falls at its COUNTS 5, 13, 19, 27, 33 ..; elm's yule at 0, 6, 12 ..
     * Of oak's days of YEARS 0, 2, 4 .. two are put in: COUNTS 6, 7, 20, 21 ..
     */
    private static final String VALLEY = "parish oak 2 3 3 0;leap oak 2 2;parish elm 3 2 2 1;"
        + "feast wake oak 1 2;feast yule elm 0 0;sun 13 2;";
    private static final String DRAWN = "parish p 6 30 9 0;parish q 2 2 2 0;"
        + "feast f p 1 10;feast g p 1 25;feast h p 0 0;";

    public static void main(String[] args) {
        next();
        falls();
        meet();
        fair();
        drift();
        tune();
        agree();
        mostToAgree();
        match();
        reform();
        play();
        crowd();
        wrote();
        ago();
        age();
        ask();
        born();
        title();
        odds();
        check.end();
    }

    private static ParishYears valley() {
        return Check.valleyOf(VALLEY);
    }

    private static void next() {
        ParishYears x = valley();
        check.due("15 next(0)", x.next(0), 5);
        check.due("15 next(1)", x.next(1), 5);
        x.hold(0);
        check.due("15 next(0), HELD", x.next(0), 6);
        check.due("15 next(1), the other one HELD", x.next(1), 5);
        x.undo();
        x.days(5);
        check.due("15 next(0) on its day", x.next(0), 0);
        x.hold(0);
        check.due("15 next(0) on its HELD day", x.next(0), 0);
        x.undo();
        x.days(1);
        check.due("15 next(0) behind it", x.next(0), 7);
        check.due("15 next(2)", x.next(2), -1);
        check.due("15 next(-1)", x.next(-1), -1);
    }

    private static void falls() {
        ParishYears x = valley();
        check.due("16 falls(0, 4)", x.falls(0, 4), 0);
        check.due("16 falls(0, 5)", x.falls(0, 5), 1);
        check.due("16 falls(0, 33)", x.falls(0, 33), 5);
        check.due("16 falls(0, 9999)", x.falls(0, 9999), 1428);
        check.due("16 falls(0, 10000)", x.falls(0, 10000), -1);
        check.due("16 falls(0, -1)", x.falls(0, -1), -1);
        check.due("16 falls(2, 0)", x.falls(2, 0), -1);
        check.due("16 falls(-1, 0)", x.falls(-1, 0), -1);
        x.days(5);
        check.due("16 falls(0, 0)", x.falls(0, 0), 1);
        x.hold(0);
        check.due("16 falls(0, 0), HELD", x.falls(0, 0), 1);
        check.due("16 falls(0, 1), HELD", x.falls(0, 1), 2);
        check.due("16 falls(0, 8), HELD", x.falls(0, 8), 2);
        check.due("16 falls(0, 9), HELD", x.falls(0, 9), 3);
    }

    private static void meet() {
        ParishYears x = valley();
        check.due("17 meet(0, 1)", x.meet(0, 1), 5);
        check.due("17 meet(0, 0)", x.meet(0, 0), 5);
        x.days(6);
        // wake in 7, 13, 21, 27, 35, 41 ..; yule in 5, 11, 17, 23, 29, 35 days
        check.due("17 meet(0, 1)", x.meet(0, 1), 35);
        check.due("17 meet(1, 0)", x.meet(1, 0), 35);
        check.due("17 meet(0, 2)", x.meet(0, 2), -1);
        check.due("17 meet(-1, 0)", x.meet(-1, 0), -1);
        ParishYears y = Check.valleyOf("parish p 2 2 2 0;parish q 2 2 2 0;feast f p 0 0;feast g p 0 1;feast h q 0 1;");
        check.due("17 never", y.meet(0, 1), -1);
        check.due("17 never", y.meet(0, 2), -1);
        y.hold(1);
        y.days(1);
        check.due("17 now they do", y.meet(0, 2), -1);
        y.skip(0, 3);
        check.due("17 today", y.meet(0, 0), 0);
        ParishYears z = Check.valleyOf("parish p 2 2 2 1;parish q 2 2 2 0;feast f p 0 0;feast h q 0 1;");
        z.hold(1);
        // p: 1 2 3 0 1, q: 0 0 1 2 3 0 1
        check.due("17 HELD: not", z.meet(0, 1), -1);
        z.days(1);
        z.hold(1);
        // p: 2 3 0, q: 0 0 1
        check.due("17 HELD: on the third day", z.meet(0, 1), 2);
        // p's YEARS have 391 days, q's 390: g falls 256 days behind f first, then each time a day less
        ParishYears far = Check.valleyOf("parish p 13 30 9 0;leap p 1 1;parish q 13 30 9 0;"
            + "feast f p 0 0;feast g q 8 16;");
        check.due("17 in 256 * 391 days", far.meet(0, 1), -1);
        far.days(96);
        check.due("17 in 100000", far.meet(0, 1), -1);
        check.due("17 in 100000", far.meet(1, 0), -1);
        far.days(1);
        check.due("17 in 99999", far.meet(0, 1), 99999);
        check.due("17 in 99999", far.meet(1, 0), 99999);
    }

    private static void fair() {
        ParishYears x = valley();
        check.due("18 fair(1)", x.fair(1), 0);
        check.due("18 fair(2)", x.fair(2), 1);
        check.due("18 fair(3)", x.fair(3), 3);
        x.hold(0);
        check.due("18 fair(1), HELD", x.fair(1), 0);
        // oak: 0 0 1 2 0 .., elm 1 0: on the first day both
        check.due("18 fair(3), HELD", x.fair(3), 1);
        check.due("18 fair(0)", x.fair(0), -1);
        check.due("18 fair(4)", x.fair(4), -1);
        check.due("18 fair(5)", x.fair(5), -1);
        check.due("18 fair(-1)", x.fair(-1), -1);
        ParishYears y = Check.valleyOf("parish a 2 2 9 1;parish b 2 2 8 1;parish c 2 2 7 1;parish d 2 2 5 1;");
        check.due("18 fair(15)", y.fair(15), 2519);
        for (int p = 0; p < 4; p++) {
            y.hold(p);
        }
        check.due("18 fair(15), all HELD", y.fair(15), 2520);
        y.days(2);
        check.due("18 fair(15)", y.fair(15), 2518);
        ParishYears z = Check.valleyOf("parish a 2 2 4 0;parish b 2 2 2 1;");
        check.due("18 never", z.fair(3), -1);
        check.due("18 none at all", new ParishYears().fair(1), -1);
    }

    private static void drift() {
        ParishYears x = valley();
        // 7 days in a YEAR on an average, 13/2 of the sun
        check.due("19 above", x.drift(0, 0), 1);
        check.due("19 below", x.drift(0, 1), 2);
        check.due("19 above", x.drift(1, 0), -1);
        check.due("19 below", x.drift(1, 1), 2);
        check.throwsNoSuchElement("19 drift(0, 2)", () -> x.drift(0, 2));
        check.throwsNoSuchElement("19 drift(0, -1)", () -> x.drift(0, -1));
        check.throwsNoSuchElement("19 drift(2, 0)", () -> x.drift(2, 0));
        check.throwsNoSuchElement("19 drift(-1, 0)", () -> x.drift(-1, 0));
        ParishYears y = Check.valleyOf("parish p 2 3 3 0;leap p 1 2;sun 13 2;");
        check.due("19 none above", y.drift(0, 0), 0);
        check.due("19 none below", y.drift(0, 1), 1);
        ParishYears z = Check.valleyOf("parish p 12 30 7 0;leap p 5 9;");
        check.due("19 above", z.drift(0, 0), -40);
        check.due("19 below", z.drift(0, 1), 9);
    }

    private static void tuned(ParishYears x, int p, int e, int years, int days) {
        check.due("20 tune(" + p + ", " + e + ")", x.tune(p, e), years);
        check.due("21 tuned()", x.tuned(), days);
    }

    private static void tune() {
        ParishYears x = valley();
        check.due("21 ahead of any", x.tuned(), -1);
        check.due("20 tune(0, 0)", x.tune(0, 0), -1);
        check.due("20 tune(0, 31)", x.tune(0, 31), -1);
        check.due("20 tune(2, 1)", x.tune(2, 1), -1);
        check.due("21 ahead of any", x.tuned(), -1);
        // 6 days and 0 or 1 more are as near to 13/2: the fewer days
        tuned(x, 0, 1, 1, 0);
        tuned(x, 0, 2, 2, 1);
        tuned(x, 0, 30, 2, 1);
        ParishYears y = Check.valleyOf("parish p 2 3 3 0;parish q 2 2 2 0;parish r 3 3 3 0;sun 185 30;");
        // 6 and 1/6
        tuned(y, 0, 5, 5, 1);
        tuned(y, 0, 6, 6, 1);
        tuned(y, 0, 30, 6, 1);
        // 4 and 13/6: 2 in 1, 9 in 4, 11 in 5 can't be
        tuned(y, 1, 1, 1, 2);
        tuned(y, 1, 4, 4, 9);
        // 9 is too many
        tuned(y, 2, 30, 1, 0);
        check.due("20 tune(0, 31)", y.tune(0, 31), -1);
        check.due("21 the latest that was not NONE", y.tuned(), 0);
        ParishYears z = Check.valleyOf("parish p 2 3 3 0;");
        tuned(z, 0, 30, 1, 9);
    }

    private static void agree() {
        ParishYears x = valley();
        check.due("23 ahead of any", x.agreeing(), -1);
        check.due("22 agree(0, 2)", x.agree(0, 2), -1);
        check.due("22 agree(-1, 0)", x.agree(-1, 0), -1);
        check.due("23 ahead of any", x.agreeing(), -1);
        // oak 0 0, elm 0 1
        check.due("22 agree(0, 1)", x.agree(0, 1), 1);
        check.due("23 oak", x.agreeing(), 0);
        check.due("22 agree(1, 0)", x.agree(1, 0), 1);
        check.due("23 oak", x.agreeing(), 0);
        check.due("22 agree(1, 1)", x.agree(1, 1), 0);
        check.due("23 the first", x.agreeing(), 1);
        x.days(1);
        // oak 0 1, elm 1 0
        check.due("22 agree(1, 0)", x.agree(1, 0), 2);
        check.due("23 oak", x.agreeing(), 0);
        x.days(1);
        // oak 0 2, elm 1 1: elm has no DATE 2
        check.due("22 agree(1, 0)", x.agree(1, 0), 2);
        check.due("23 oak", x.agreeing(), 0);
        x.days(1);
        x.skip(0, 2);
        // oak 1 2, elm 2 0: oak's day put in is its own MONTH 2, DATE 0
        check.due("22 agree(0, 1)", x.agree(0, 1), 1);
        check.due("23 oak", x.agreeing(), 0);
        x.skip(1, 3);
        check.due("22 agree(0, 1)", x.agree(0, 1), 4);
        ParishYears y = Check.valleyOf("parish p 3 3 2 8;parish q 2 2 2 0;");
        y.skip(1, 1);
        // p 2 2, q 0 1
        check.due("22 agree(0, 1)", y.agree(0, 1), 2);
        y.skip(1, 3);
        check.due("22 agree(1, 0)", y.agree(1, 0), 1);
        check.due("23 p", y.agreeing(), 0);
        ParishYears z = Check.valleyOf("parish p 13 30 2 389;parish q 2 2 2 0;leap q 9 9;");
        // p 12 29, q 0 0: p goes on to the next YEAR
        check.due("22 agree(0, 1)", z.agree(0, 1), 1);
        z.skip(1, 4);
        // q's first day put in: MONTH 2, DATE 0
        check.due("22 agree(0, 1)", z.agree(0, 1), 61);
        agreeFar();
    }

    private static void agreeFar() {
        // q's ninth day put in is its MONTH 2, DATE 8
        ParishYears x = Check.valleyOf("parish p 13 30 2 69;parish q 2 2 2 0;leap q 9 9;");
        x.skip(1, 12);
        // p 2 9, q 2 8: p comes to it in its next YEAR
        check.due("22 agree(0, 1)", x.agree(0, 1), 389);
        ParishYears y = Check.valleyOf("parish p 13 30 2 69;leap p 9 1;parish q 2 2 2 0;leap q 9 9;");
        y.skip(1, 12);
        check.due("22 agree(0, 1)", y.agree(0, 1), 398);
        ParishYears z = Check.valleyOf("parish p 2 3 3 2;parish q 3 2 2 5;");
        // p 0 2, q 2 1
        check.due("23 ahead of any", z.agreeing(), -1);
        check.due("22 by none", z.agree(0, 1), -1);
        check.due("23 ahead of any", z.agreeing(), -1);
    }

    /** p's days put in come each 9 YEARS, at its COUNTS 60 and 609; q, of DATES below 19, never comes to p's date. */
    private static void mostToAgree() {
        ParishYears x = Check.valleyOf("parish p 2 30 9 209;leap p 9 9;parish q 13 19 9 38;");
        check.due("22 by 400", x.agree(0, 1), 400);
        check.due("26 by 400", x.reform(), 400);
        check.due("28 400 days, k 2", x.play(0, 1, 2), 1);
        ParishYears y = Check.valleyOf("parish p 2 30 9 208;leap p 9 9;parish q 13 19 9 38;");
        check.due("22 not by 401", y.agree(0, 1), -1);
        check.due("26 not by 401", y.reform(), -1);
        check.due("28 not 401 days", y.play(0, 1, 2), -1);
    }

    private static void match() {
        ParishYears x = valley();
        check.due("25 ahead of any", x.matchOn(), -1);
        check.due("24 match(0, 1, 1000)", x.match(0, 1, 1000), -1);
        check.due("24 match(0, 1, -1)", x.match(0, 1, -1), -1);
        check.due("24 match(0, 2, 0)", x.match(0, 2, 0), -1);
        check.due("24 match(2, 0, 0)", x.match(2, 0, 0), -1);
        check.due("24 match(0, 1, 0)", x.match(0, 1, 0), 0);
        check.due("25 ahead of any above 0", x.matchOn(), -1);
        check.due("24 match(0, 0, 9)", x.match(0, 0, 9), 10);
        check.due("25 matchOn()", x.matchOn(), 0);
        int found = 0;
        int first = -1;
        ParishYears asked = x;
        for (int k = 0; k <= 999; k++) {
            // An object is used for 512 calls at most.
            asked = k % 100 == 0 ? valley() : asked;
            if (asked.at(0, k, 1) == asked.at(1, k, 1) && asked.at(0, k, 2) == asked.at(1, k, 2)) {
                first = found == 0 ? k : first;
                found++;
            }
        }
        check.due("24 match(0, 1, 999)", x.match(0, 1, 999), found);
        check.due("25 matchOn()", x.matchOn(), first);
        check.due("24 match(0, 1, 0)", x.match(0, 1, 0), 0);
        check.due("25 the latest above 0", x.matchOn(), first);
        ParishYears y = Check.valleyOf("parish p 2 3 3 0;parish q 2 3 3 1;");
        check.due("24 never", y.match(0, 1, 999), 0);
        y.hold(1);
        // p 0 1 2 .., q 1 1 2 ..
        check.due("24 HELD: from tomorrow on", y.match(0, 1, 999), 999);
        check.due("25 tomorrow", y.matchOn(), 1);
    }

    private static void reform() {
        ParishYears x = valley();
        check.due("27 ahead of any", x.reformTo(), -1);
        check.due("26 no PARISHES", new ParishYears().reform(), -1);
        // oak 0 0, elm 0 1: oak skips 1, or elm skips 5
        check.due("26 reform()", x.reform(), 1);
        check.due("27 to elm", x.reformTo(), 1);
        ParishYears one = Check.valleyOf("parish p 2 2 2 0;");
        check.due("26 of one", one.reform(), 0);
        check.due("27 to it", one.reformTo(), 0);
        ParishYears like = Check.valleyOf("parish p 2 3 2 0;parish q 2 3 2 3;");
        check.due("26 of like ones", like.reform(), 3);
        check.due("27 the first", like.reformTo(), 0);
        ParishYears three = Check.valleyOf("parish p 2 3 2 0;parish q 2 3 2 1;parish r 2 3 2 5;");
        // to p: 5 and 1; to q: 1 and 2; to r: 5 and 4
        check.due("26 of three", three.reform(), 3);
        check.due("27 to q", three.reformTo(), 1);
        ParishYears none = Check.valleyOf("parish p 2 3 3 2;parish q 3 2 2 5;");
        check.due("26 by none", none.reform(), -1);
        check.due("27 ahead of any", none.reformTo(), -1);
        Check.valley(three, "parish p 2 3 3 2;parish q 3 2 2 5;");
        check.due("26 by none", three.reform(), -1);
        check.due("27 the latest that was not NONE", three.reformTo(), 1);
    }

    private static void play() {
        ParishYears x = Check.valleyOf("parish p 5 5 2 0;parish q 5 5 2 12;");
        check.due("28 12 days, k 1", x.play(0, 1, 1), -1);
        check.due("28 12 days, k 4", x.play(0, 1, 4), 2);
        check.due("28 12 days, k 5", x.play(0, 1, 5), -1);
        check.due("28 12 days, k 6", x.play(0, 1, 6), 5);
        check.due("28 12 days, k 9", x.play(0, 1, 9), 2);
        check.due("28 13 days, k 1", x.play(1, 0, 1), 1);
        check.due("28 13 days, k 3", x.play(1, 0, 3), 1);
        check.due("28 13 days, k 9", x.play(1, 0, 9), 3);
        check.due("28 one date", x.play(0, 0, 3), -1);
        check.due("28 k 0", x.play(0, 1, 0), -1);
        check.due("28 k 10", x.play(0, 1, 10), -1);
        check.due("28 no PARISH", x.play(0, 2, 1), -1);
        check.due("28 no PARISH", x.play(-1, 0, 1), -1);
        x.skip(0, 7);
        check.due("28 at once", x.play(0, 1, 9), 5);
        ParishYears y = Check.valleyOf("parish p 2 3 3 2;parish q 3 2 2 5;");
        check.due("28 never", y.play(0, 1, 9), -1);
    }

    private static void crowd() {
        ParishYears x = valley();
        check.due("30 ahead of any", x.crowdOn(), -1);
        check.due("29 crowd(1000)", x.crowd(1000), -1);
        check.due("29 crowd(-1)", x.crowd(-1), -1);
        check.due("30 ahead of any", x.crowdOn(), -1);
        check.due("29 crowd(4)", x.crowd(4), 0);
        check.due("30 today", x.crowdOn(), 0);
        check.due("29 crowd(0)", x.crowd(0), 0);
        check.due("29 crowd(5)", x.crowd(5), 2);
        check.due("30 crowdOn()", x.crowdOn(), 5);
        x.days(6);
        check.due("29 crowd(34)", x.crowd(34), 1);
        check.due("30 the first", x.crowdOn(), 5);
        check.due("29 crowd(999)", x.crowd(999), 2);
        check.due("30 crowdOn()", x.crowdOn(), 35);
        check.due("29 crowd(1000)", x.crowd(1000), -1);
        check.due("30 the latest that was not NONE", x.crowdOn(), 35);
        x.undo();
        x.hold(0);
        // wake in 6, yule in 5 days; then wake in 14, 20, 28, 34, 42, 48, yule in 11, 17 ..
        check.due("29 HELD", x.crowd(999), 1);
        check.due("30 crowdOn()", x.crowdOn(), 5);
    }

    private static void wrote() {
        ParishYears x = valley();
        check.due("31 all unread", Check.wrote(x, 255, 255, 255), 3);
        check.due("31 MONTH 0", Check.wrote(x, 0, 255, 255), 3);
        check.due("31 DATE 1", Check.wrote(x, 255, 1, 255), 2);
        check.due("31 weekday 0", Check.wrote(x, 255, 255, 0), 1);
        check.due("31 oak's", Check.wrote(x, 0, 0, 0), 1);
        check.due("31 elm's", Check.wrote(x, 0, 1, 1), 2);
        check.due("31 nobody's", Check.wrote(x, 0, 1, 0), 0);
        check.due("31 nobody's", Check.wrote(x, 254, 255, 255), 0);
        check.due("31 the tape is empty then", x.count(4), 0);
        check.due("31 no tape", x.wrote(), -1);
        x.feed(-1, -1, -1, -1, -1);
        check.due("31 too long", x.wrote(), -1);
        check.due("31 the tape is empty then", x.count(4), 0);
        x.feed(-1, -1, -1, -1, -1);
        x.end(2);
        check.due("31 too short", x.wrote(), -1);
        check.due("31 no PARISHES", Check.wrote(new ParishYears(), 255, 255, 255), 0);
    }

    private static void ago() {
        ParishYears x = valley();
        x.days(22);
        // oak: COUNT 22, YEAR 3, 0 0, weekday 1
        check.due("32 today", Check.ago(x, 0, 0, 0, 255), 0);
        check.due("32 put in", Check.ago(x, 0, 2, 255, 255), 1);
        check.due("32 put in, DATE 0", Check.ago(x, 0, 2, 0, 255), 2);
        check.due("32 1 2", Check.ago(x, 0, 1, 2, 255), 3);
        check.due("32 1 2 on weekday 2", Check.ago(x, 0, 1, 2, 2), 17);
        check.due("32 0 0 on weekday 0", Check.ago(x, 0, 0, 0, 0), 22);
        check.due("32 DATE 2", Check.ago(x, 0, 255, 2, 255), 3);
        check.due("32 weekday 2", Check.ago(x, 0, 255, 255, 2), 2);
        check.due("32 never yet", Check.ago(x, 0, 1, 2, 0), -1);
        check.due("32 never", Check.ago(x, 0, 9, 255, 255), -1);
        check.due("32 no PARISH", Check.ago(x, 2, 255, 255, 255), -1);
        check.due("32 the tape is empty then", x.count(4), 0);
        check.due("32 no tape", x.ago(0), -1);
        ParishYears y = Check.valleyOf("parish p 13 30 9 0;leap p 9 9;");
        for (int i = 0; i < 11; i++) {
            y.days(999);
        }
        // COUNT 10000; 390 to 398 were put in first, 3909 and on next, 7428 and on then
        check.due("32 far", Check.ago(y, 0, 13, 8, 255), 10000 - 390 - 2 * 3519 - 8);
        check.due("32 9999 back", Check.ago(allDaysBehind("parish p 13 30 7 389;leap p 9 9;"), 0, 13, 0, 5), 9999);
        check.due("32 not 10000", Check.ago(allDaysBehind("parish p 13 30 7 390;leap p 9 9;"), 0, 13, 0, 5), -1);
        ParishYears z = Check.valleyOf("parish p 13 30 2 0;");
        z.days(1);
        check.due("32 none below COUNT 0", Check.ago(z, 0, 12, 255, 255), -1);
    }

    /** p's first day put in, COUNT 390, is of weekday 5; the next such one comes 7 * 3519 days later. */
    private static ParishYears allDaysBehind(String text) {
        ParishYears x = Check.valleyOf(text);
        for (int i = 0; i < 11; i++) {
            x.days(999);
        }
        return x;
    }

    private static void age() {
        ParishYears x = valley();
        x.days(21);
        // oak: COUNT 21, YEAR 2, between 1
        check.due("33 0 0 0", x.age(0, 0, 0, 0), 2);
        check.due("33 0 1 2", x.age(0, 0, 1, 2), 2);
        check.due("33 0 2 0", x.age(0, 0, 2, 0), 1);
        check.due("33 0 2 1", x.age(0, 0, 2, 1), 1);
        check.due("33 2 2 1 is today", x.age(0, 2, 2, 1), 0);
        check.due("33 3 0 0 is behind today", x.age(0, 3, 0, 0), -1);
        check.due("33 1 2 0 is none", x.age(0, 1, 2, 0), -1);
        check.due("33 0 3 0 is none", x.age(0, 0, 3, 0), -1);
        check.due("33 -1 0 0 is none", x.age(0, -1, 0, 0), -1);
        check.due("33 1000 0 0 is none", x.age(0, 1000, 0, 0), -1);
        check.due("33 no PARISH", x.age(2, 0, 0, 0), -1);
        x.undo();
        x.days(20);
        check.due("33 0 2 1, a day ahead", x.age(0, 0, 2, 1), 0);
        check.due("33 0 2 0, on the day", x.age(0, 0, 2, 0), 1);
    }

    private static void ask() {
        check.due("34 no PARISHES", new ParishYears().ask(), -1);
        // MONTH 0 0, DATE 0 1, weekday 0 1
        check.due("34 ask()", valley().ask(), 1);
        check.due("34 of one", Check.valleyOf("parish p 2 2 2 0;").ask(), 0);
        // MONTHS 0 0 0, DATES 6 7 8, weekdays 0 1 2: of like ones the first
        check.due("34 the DATE", Check.valleyOf("parish p 2 9 3 6;parish q 2 9 3 7;parish r 2 9 3 8;").ask(), 1);
        check.due("34 the weekday", Check.valleyOf("parish p 2 2 9 0;parish q 2 2 9 4;parish r 2 2 9 8;").ask(), 2);
        check.due("34 the MONTH", Check.valleyOf("parish p 5 2 2 0;parish q 5 2 2 2;parish r 5 2 2 4;").ask(), 0);
    }

    private static void born() {
        ParishYears x = valley();
        check.due("35 born(0, 1)", x.born(0, 1), 8);
        check.due("35 born(0, 2)", x.born(0, 2), 14);
        check.due("35 born(0, 99)", x.born(0, 99), 49 * 14 + 8);
        check.due("35 born(0, 0)", x.born(0, 0), -1);
        check.due("35 born(0, 100)", x.born(0, 100), -1);
        check.due("35 born(2, 1)", x.born(2, 1), -1);
        check.due("35 born(-1, 1)", x.born(-1, 1), -1);
        x.hold(0);
        check.due("35 HELD: tomorrow", x.born(0, 1), 1);
        check.due("35 HELD: then", x.born(0, 2), 9);
        x.undo();
        x.days(7);
        check.due("35 put in", x.born(0, 1), 14);
        check.due("35 put in", x.born(0, 3), 42);
        ParishYears y = Check.valleyOf("parish p 13 30 9 391;leap p 9 9;");
        check.due("35 28 times", y.born(0, 28), 28 * 3519);
        check.due("35 not in 99999", y.born(0, 29), -1);
        ParishYears z = Check.valleyOf("parish p 9 30 9 270;leap p 9 9;");
        check.due("35 in 41 * 2439 days", z.born(0, 41), 99999);
        z.hold(0);
        check.due("35 in one day more", z.born(0, 42), -1);
    }

    private static void titled(ParishYears x, int p, String want) {
        String got = Check.titleText(x, p);
        check.due("36 title: " + got + " for " + want, got.equals(want), true);
        check.due("37 behind it", x.byteAt(want.length()), -1);
    }

    private static void title() {
        ParishYears x = valley();
        check.due("37 ahead of any", x.byteAt(0), -1);
        titled(x, 0, "oak year 0 month 0 day 0");
        titled(x, 1, "elm year 0 month 0 day 1");
        x.days(7);
        titled(x, 0, "oak year 0 between 1");
        x.hold(0);
        titled(x, 0, "oak year 0 between 1 held");
        check.due("36 title(2)", x.title(2), -1);
        check.due("36 title(-1)", x.title(-1), -1);
        check.due("37 the latest stays", x.byteAt(0), 'o');
        check.due("37 byteAt(-1)", x.byteAt(-1), -1);
        check.due("37 byteAt(most)", x.byteAt(Integer.MAX_VALUE), -1);
        ParishYears y = Check.valleyOf("parish village 13 30 9 385;parish z 2 2 2 999;");
        y.hold(0);
        titled(y, 0, "village year 0 month 12 day 25 held");
        for (int i = 0; i < 11; i++) {
            y.days(999);
        }
        titled(y, 1, "z year 2749 month 1 day 1");
    }

    private static void odds() {
        ParishYears x = valley();
        check.due("39 odds(2, 1, 1)", x.odds(2, 1, 1), -1);
        check.due("39 odds(-1, 1, 1)", x.odds(-1, 1, 1), -1);
        check.due("39 odds(0, 0, 1)", x.odds(0, 0, 1), -1);
        check.due("39 odds(0, 31, 1)", x.odds(0, 31, 1), -1);
        ParishYears y = Check.valleyOf(DRAWN);
        for (int f = 0; f < 3; f++) {
            for (int n = 1; n <= 30; n += 29) {
                int found = 0;
                for (int i = 0; i < n; i++) {
                    found += fallsByDraws(f, Integer.MAX_VALUE - 3 + i) ? 1 : 0;
                }
                check.due("39 odds(" + f + ", " + n + ", ..)", y.odds(f, n, Integer.MAX_VALUE - 3), found);
            }
        }
        check.due("39 some do", y.odds(0, 30, 1) > 0 && y.odds(1, 30, 1) < 30, true);
        check.due("39 nothing changes", y.now(0), 0);
        check.due("39 nothing to undo", y.undo(), -1);
    }

    /** By drawing the same days in rows of 1 to 40 from the same day on. */
    private static boolean fallsByDraws(int f, int seed) {
        ParishYears x = Check.valleyOf(DRAWN);
        boolean fell = false;
        for (int n = 1; n <= 40; n++) {
            x.drawn(n, seed);
            fell |= x.feast(f, 3) == 1;
            x.undo();
        }
        return fell;
    }
}
