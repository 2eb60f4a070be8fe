/**
 * What is reckoned of FEASTS, weekdays and the sun: promises 15 to 21, 29 and 30.
 *
 * Cases of these stand in AheadTest too, by number alone; each sentence has its own here.
 */
final class AheadEdges {
    /** A YEAR of four days; the FEAST falls at COUNTS 0, 4, 8 .. */
    private static final String FOUR = "parish p 2 2 2 0;feast f p 0 0;";

    private final Edges e;

    AheadEdges(Edges e) {
        this.e = e;
    }

    void run() {
        whatWouldBe();
        next();
        falls();
        meet();
        meetFar();
        fair();
        drift();
        tune();
        tuned();
        crowd();
        crowdOn();
    }

    private void whatWouldBe() {
        e.of(15, "All by what would be, if no day is HELD (one that is HELD today is) or SKIPPED from now on;");
        ParishYears x = Check.valleyOf("parish p 2 3 3 1;parish q 2 3 3 1;feast f p 0 2;feast g q 0 2;");
        x.skip(0, 5);
        x.undo();
        x.hold(0);
        e.due("next(0), HELD", x.next(0), 2);
        e.due("next(1), of the other one", x.next(1), 1);
        e.due("falls(0, 1), HELD", x.falls(0, 1), 0);
        e.due("falls(0, 2), HELD", x.falls(0, 2), 1);
        e.due("meet(0, 1), HELD", x.meet(0, 1), -1);
        e.due("fair(1), HELD", x.fair(1), 3);
        e.due("fair(2)", x.fair(2), 2);
        e.due("match(0, 1, 0), HELD", x.match(0, 1, 0), 1);
        e.due("match(0, 1, 5), HELD", x.match(0, 1, 5), 1);
        e.due("crowd(9), HELD", x.crowd(9), 1);
        e.due("born(0, 1), HELD", x.born(0, 1), 1);
        x.days(1);
        e.due("next(0) on the next day", x.next(0), 1);
        e.due("next(1) on the next day", x.next(1), 0);
        e.of(15, "DAY 10000 no matter.");
        ParishYears late = Late.valleyOn("parish p 2 3 3 0;parish q 2 3 2 5;feast f p 1 0;feast g q 1 1;", 10000);
        // COUNTS 10000 (MONTH 1, DATE 1; weekday 1) and 10005 (MONTH 1, DATE 0; weekday 1)
        e.due("next(0)", late.next(0), 5);
        e.due("next(1)", late.next(1), 1);
        e.due("falls(0, 9999)", late.falls(0, 9999), 1666);
        e.due("meet(0, 0)", late.meet(0, 0), 5);
        e.due("fair(3)", late.fair(3), 5);
        e.due("match(0, 0, 999)", late.match(0, 0, 999), 1000);
        e.due("crowd(999)", late.crowd(999), 1);
        e.due("crowdOn()", late.crowdOn(), 1);
        e.due("born(0, 99)", late.born(0, 99), 594);
        e.due("agree(0, 1)", late.agree(0, 1), 1);
        e.due("reform()", late.reform(), 1);
        e.due("play(0, 1, 9)", late.play(0, 1, 9), 5);
        late.hold(0);
        e.due("next(0), HELD", late.next(0), 6);
    }

    private void next() {
        e.of(15, "NEXT of a FEAST: in how many days it falls (0: today).");
        ParishYears x = Check.valleyOf("parish p 13 30 9 0;feast f p 0 0;feast g p 12 29;feast h p 0 1;");
        e.due("today", x.next(0), 0);
        e.due("tomorrow", x.next(2), 1);
        e.due("on the YEAR's last day", x.next(1), 389);
        x.hold(0);
        e.due("today, HELD", x.next(0), 0);
        e.due("tomorrow, HELD", x.next(2), 2);
        e.due("on the YEAR's last day, HELD", x.next(1), 390);
        x.days(2);
        e.due("yesterday", x.next(0), 389);
        e.of(15, "NEXT of a FEAST: days;");
        ParishYears y = Check.valleyOf("parish p 13 30 9 1;leap p 9 9;feast f p 0 0;");
        e.due("over 9 days put in", y.next(0), 398);
        y.hold(0);
        e.due("over 9 days put in, HELD", y.next(0), 399);
        Late.goTo(y, 399);
        // COUNT 399, today
        e.due("today", y.next(0), 0);
        y.days(1);
        e.due("over a YEAR without", y.next(0), 389);
        e.of(15, "NONE: no such one.");
        e.due("next(1)", y.next(1), -1);
        e.due("next(-1)", y.next(-1), -1);
        e.due("next(most)", y.next(Integer.MAX_VALUE), -1);
        e.due("next(least)", y.next(Integer.MIN_VALUE), -1);
        e.due("next(0) of none", new ParishYears().next(0), -1);
        e.due("next(0) of a PARISH without", Check.valleyOf("parish p 2 2 2 0;").next(0), -1);
    }

    private void falls() {
        e.of(16, "FALLS in n days: on how many of today and the n days behind it it falls (the day behind a HELD one has "
            + "the same date).");
        ParishYears x = Check.valleyOf(FOUR);
        e.due("falls(0, 0)", x.falls(0, 0), 1);
        e.due("falls(0, 3)", x.falls(0, 3), 1);
        e.due("falls(0, 4)", x.falls(0, 4), 2);
        x.hold(0);
        e.due("falls(0, 0), HELD", x.falls(0, 0), 1);
        e.due("falls(0, 1), HELD", x.falls(0, 1), 2);
        e.due("falls(0, 4), HELD", x.falls(0, 4), 2);
        e.due("falls(0, 5), HELD", x.falls(0, 5), 3);
        x.undo();
        x.days(1);
        e.due("falls(0, 0) a day later", x.falls(0, 0), 0);
        e.due("falls(0, 2) a day later", x.falls(0, 2), 0);
        e.due("falls(0, 3) a day later", x.falls(0, 3), 1);
        x.hold(0);
        e.due("falls(0, 3), HELD", x.falls(0, 3), 0);
        e.due("falls(0, 4), HELD", x.falls(0, 4), 1);
        e.of(16, "FALLS in n (0 to 9999) days: how often;");
        ParishYears y = Check.valleyOf(FOUR);
        e.due("falls(0, 9995)", y.falls(0, 9995), 2499);
        e.due("falls(0, 9996)", y.falls(0, 9996), 2500);
        e.due("falls(0, 9999)", y.falls(0, 9999), 2500);
        ParishYears leap = Check.valleyOf("parish p 2 2 2 0;leap p 9 9;feast f p 0 0;feast g p 1 1;");
        // YEARS of 13, 4, 4, 4, 4, 4, 4, 4, 4 days
        e.due("falls(0, 12)", leap.falls(0, 12), 1);
        e.due("falls(0, 13)", leap.falls(0, 13), 2);
        e.due("falls(0, 44)", leap.falls(0, 44), 9);
        e.due("falls(0, 45)", leap.falls(0, 45), 10);
        e.due("falls(1, 2)", leap.falls(1, 2), 0);
        e.due("falls(1, 3)", leap.falls(1, 3), 1);
        e.of(16, "NONE: no such ones.");
        e.due("falls(0, 10000)", y.falls(0, 10000), -1);
        e.due("falls(0, -1)", y.falls(0, -1), -1);
        e.due("falls(0, most)", y.falls(0, Integer.MAX_VALUE), -1);
        e.due("falls(0, least)", y.falls(0, Integer.MIN_VALUE), -1);
        e.due("falls(1, 0)", y.falls(1, 0), -1);
        e.due("falls(-1, 0)", y.falls(-1, 0), -1);
        e.due("falls(0, 0) of none", new ParishYears().falls(0, 0), -1);
    }

    private void meet() {
        e.of(17, "MEET of two FEASTS: in how many days both fall on one day.");
        ParishYears x = Check.valleyOf("parish p 2 2 2 0;parish q 3 3 3 0;feast f p 0 0;feast g q 0 0;feast h q 2 2;"
            + "feast i p 0 0;feast j p 0 1;");
        e.due("meet(0, 1): today", x.meet(0, 1), 0);
        e.due("meet(0, 2): 4a = 9b + 8", x.meet(0, 2), 8);
        e.due("meet(2, 0)", x.meet(2, 0), 8);
        e.due("meet(4, 2): 4a + 1 = 9b + 8", x.meet(4, 2), 17);
        e.due("meet(0, 3), of one PARISH on one date", x.meet(0, 3), 0);
        e.due("meet(2, 2), of one with itself", x.meet(2, 2), 8);
        x.days(1);
        e.due("meet(0, 1), a day later", x.meet(0, 1), 35);
        e.due("meet(1, 0), a day later", x.meet(1, 0), 35);
        x.undo();
        x.hold(0);
        e.due("meet(0, 1): today, HELD", x.meet(0, 1), 0);
        // p: 0, then 4a + 1; q: 9b
        e.due("meet(1, 4), HELD: 4a + 2 = 9b", x.meet(1, 4), 18);
        e.of(17, "MEET of two FEASTS: days;");
        ParishYears y = Check.valleyOf("parish p 2 2 2 1;parish q 2 2 2 1;feast f p 0 1;feast g q 1 0;");
        y.hold(0);
        // p: 1 1 2 3 0 1, q: 1 2 3 0 1 2
        e.due("meet(0, 1): p's day comes again", y.meet(0, 1), 1);
        e.due("meet(1, 0)", y.meet(1, 0), 1);
    }

    /** p's YEARS have 391 days, q's 390; g falls 256 days behind f first, then each time a day less: on DAY 100096. */
    private void meetFar() {
        e.of(17, "NONE: not in 99999, no such ones.");
        ParishYears x = Late.valleyOn("parish p 13 30 9 0;leap p 1 1;parish q 13 30 9 0;feast f p 0 0;feast g q 8 16;",
            96);
        e.due("in 100000", x.meet(0, 1), -1);
        e.due("in 100000", x.meet(1, 0), -1);
        x.days(1);
        e.due("in 99999", x.meet(0, 1), 99999);
        e.due("in 99999", x.meet(1, 0), 99999);
        x.hold(0);
        x.hold(1);
        e.due("in 99999, both HELD", x.meet(0, 1), -1);
        x.undo();
        x.undo();
        x.days(1);
        x.hold(0);
        x.hold(1);
        e.due("in 99998, both HELD", x.meet(0, 1), 99999);
        ParishYears never = Check.valleyOf("parish p 2 2 2 0;parish q 2 2 2 0;feast f p 0 0;feast g p 0 1;feast h q 0 1;");
        e.due("never, of one PARISH", never.meet(0, 1), -1);
        e.due("never, of two", never.meet(0, 2), -1);
        e.due("meet(0, 3)", never.meet(0, 3), -1);
        e.due("meet(3, 0)", never.meet(3, 0), -1);
        e.due("meet(-1, 0)", never.meet(-1, 0), -1);
        e.due("meet(0, -1)", never.meet(0, -1), -1);
        e.due("meet(0, most)", never.meet(0, Integer.MAX_VALUE), -1);
        e.due("meet(0, 0) of none", new ParishYears().meet(0, 0), -1);
    }

    private void fair() {
        e.of(18, "FAIR of PARISHES: in how many days all of them have weekday 0.");
        ParishYears x = Check.valleyOf("parish a 2 2 9 1;parish b 2 2 8 1;parish c 2 2 7 1;parish d 2 2 5 1;"
            + "parish e 2 2 2 1;");
        e.due("fair(1)", x.fair(1), 8);
        e.due("fair(16)", x.fair(16), 1);
        e.due("fair(3): 72", x.fair(3), 71);
        e.due("fair(31): 2520", x.fair(31), 2519);
        for (int p = 0; p < 5; p++) {
            x.hold(p);
        }
        e.due("fair(31), all HELD", x.fair(31), 2520);
        ParishYears first = Check.valleyOf("parish a 2 2 9 0;parish b 2 2 8 0;");
        e.due("today", first.fair(3), 0);
        first.hold(0);
        e.due("today, HELD", first.fair(3), 0);
        first.days(1);
        // COUNTS 0 and 1: 9a = 8b + 7
        e.due("a day later", first.fair(3), 63);
        e.due("a day later", first.fair(1), 0);
        e.of(18, "FAIR of PARISHES (bits, some): days;");
        ParishYears y = Check.valleyOf("parish a 2 2 3 1;parish b 2 2 4 1;parish c 2 2 5 1;");
        int[] days = {2, 3, 11, 4, 14, 19, 59};
        for (int set = 1; set <= 7; set++) {
            e.due("fair(" + set + ")", y.fair(set), days[set - 1]);
        }
        e.of(18, "NONE: never, none, no such ones.");
        ParishYears never = Check.valleyOf("parish a 2 2 4 0;parish b 2 2 2 1;parish c 2 2 9 0;");
        e.due("never", never.fair(3), -1);
        e.due("never", never.fair(7), -1);
        e.due("fair(5)", never.fair(5), 0);
        never.hold(0);
        // a: 0 0 1 .., b: 1 0 1 ..
        e.due("HELD: tomorrow", never.fair(3), 1);
        e.due("fair(0)", never.fair(0), -1);
        e.due("fair(8)", never.fair(8), -1);
        e.due("fair(9)", never.fair(9), -1);
        e.due("fair(-1)", never.fair(-1), -1);
        e.due("fair(most)", never.fair(Integer.MAX_VALUE), -1);
        e.due("fair(least)", never.fair(Integer.MIN_VALUE), -1);
        e.due("fair(1) of none", new ParishYears().fair(1), -1);
        e.due("fair(0) of none", new ParishYears().fair(0), -1);
        e.due("fair(32) of five", x.fair(32), -1);
    }

    private void drifts(String text, int above, int below) {
        ParishYears x = Check.valleyOf(text);
        e.due("above, of " + text, x.drift(0, 0), above);
        e.due("below, of " + text, x.drift(0, 1), below);
    }

    private void drift() {
        e.of(19, "DRIFT of a PARISH: days in a YEAR on an average less those of the sun.");
        drifts("parish p 2 3 3 0;leap p 2 2;sun 13 2;", 1, 2);
        drifts("parish p 2 3 3 0;sun 13 2;", -1, 2);
        drifts("parish p 12 30 7 0;leap p 5 1;", 0, 1);
        drifts("parish p 13 30 7 0;leap p 9 1;sun 1 30;", 11969, 30);
        drifts("parish p 2 2 2 0;sun 999 1;", -995, 1);
        e.of(19, "All fractions are told by two numbers: 0 above, 1 below, in least terms, below above 0.");
        drifts("parish p 2 3 3 0;leap p 4 8;sun 13 2;", 0, 1);
        drifts("parish p 2 3 3 0;leap p 9 9;sun 14 2;", 0, 1);
        drifts("parish p 2 3 3 0;leap p 6 9;sun 30 30;", 17, 3);
        drifts("parish p 2 2 2 0;leap p 1 9;sun 1 30;", 367, 90);
        drifts("parish p 2 2 2 0;leap p 1 9;sun 999 29;", -7918, 261);
        drifts("parish p 2 2 2 0;sun 12 2;", -2, 1);
        e.of(19, "DRIFT. NoSuchElementException: no such ones.");
        ParishYears x = Check.valleyOf("parish p 2 3 3 0;");
        e.throwsNoSuchElement("drift(0, 2)", () -> x.drift(0, 2));
        e.throwsNoSuchElement("drift(0, -1)", () -> x.drift(0, -1));
        e.throwsNoSuchElement("drift(1, 0)", () -> x.drift(1, 0));
        e.throwsNoSuchElement("drift(-1, 1)", () -> x.drift(-1, 1));
        e.throwsNoSuchElement("drift(most, 0)", () -> x.drift(Integer.MAX_VALUE, 0));
        e.throwsNoSuchElement("drift(0, least)", () -> x.drift(0, Integer.MIN_VALUE));
        e.throwsNoSuchElement("drift(0, 0) of none", () -> new ParishYears().drift(0, 0));
    }

    private void tunes(String text, int most, int years, int days) {
        ParishYears x = Check.valleyOf(text);
        e.due("tune(0, " + most + ") of " + text, x.tune(0, most), years);
        e.due("tuned() of " + text, x.tuned(), days);
    }

    private void tune() {
        e.of(20, "TUNE for e: how many days (0 to 9) should be put in each how many years (1 to e) so that this is nearest "
            + "to 0;");
        tunes("parish p 2 2 2 0;sun 121 30;", 30, 30, 1);
        tunes("parish p 2 2 2 0;sun 121 30;", 29, 29, 1);
        tunes("parish p 2 2 2 0;sun 121 30;", 1, 1, 0);
        tunes("parish p 2 2 2 0;sun 13 1;", 30, 1, 9);
        tunes("parish p 2 2 2 0;sun 14 1;", 30, 1, 9);
        tunes("parish p 2 2 2 0;sun 3 1;", 30, 1, 0);
        tunes("parish p 12 30 7 0;", 30, 1, 5);
        // 4 and 9/13 of a day
        tunes("parish p 2 2 2 0;sun 61 13;", 30, 13, 9);
        tunes("parish p 2 2 2 0;sun 61 13;", 12, 10, 7);
        // what is put in already is no matter
        tunes("parish p 2 2 2 0;leap p 9 1;sun 9 2;", 30, 2, 1);
        e.of(20, "of like ones the least number of years, then of days.");
        tunes("parish p 2 3 3 0;sun 13 2;", 1, 1, 0);
        tunes("parish p 2 3 3 0;sun 13 2;", 2, 2, 1);
        tunes("parish p 2 3 3 0;sun 13 2;", 30, 2, 1);
        tunes("parish p 2 3 3 0;sun 7 1;", 30, 1, 1);
        tunes("parish p 2 3 3 0;sun 6 1;", 30, 1, 0);
        // 1/6: 0 in 1 and 1 in 3 are as near, and so is no other one of 3 years
        tunes("parish p 2 3 3 0;sun 37 6;", 3, 1, 0);
        // 5/6 of a day: 1 in 1 and 2 in 3 are as near
        tunes("parish p 2 3 3 0;sun 41 6;", 3, 1, 1);
        e.of(20, "TUNE of a PARISH for e (1 to 30): how many years;");
        tunes("parish p 2 2 2 0;sun 9 2;", 1, 1, 0);
        tunes("parish p 2 2 2 0;sun 9 2;", 30, 2, 1);
        e.of(20, "NONE: no such ones.");
        ParishYears x = Check.valleyOf("parish p 2 3 3 0;");
        e.due("tune(0, 0)", x.tune(0, 0), -1);
        e.due("tune(0, 31)", x.tune(0, 31), -1);
        e.due("tune(0, -1)", x.tune(0, -1), -1);
        e.due("tune(0, most)", x.tune(0, Integer.MAX_VALUE), -1);
        e.due("tune(0, least)", x.tune(0, Integer.MIN_VALUE), -1);
        e.due("tune(1, 1)", x.tune(1, 1), -1);
        e.due("tune(-1, 1)", x.tune(-1, 1), -1);
        e.due("tune(0, 1) of none", new ParishYears().tune(0, 1), -1);
    }

    private void tuned() {
        e.of(21, "How many days, by the latest tune() that was not NONE;");
        ParishYears x = Check.valleyOf("parish p 2 2 2 0;parish q 2 3 3 0;sun 8 1;");
        x.tune(0, 1);
        e.due("4 days", x.tuned(), 4);
        x.tune(0, 31);
        x.tune(2, 1);
        x.tune(0, 0);
        e.due("4 still", x.tuned(), 4);
        x.tune(1, 1);
        e.due("2 days", x.tuned(), 2);
        Check.valley(x, "");
        x.tune(0, 1);
        e.due("2 still, behind a new VALLEY", x.tuned(), 2);
        e.of(21, "NONE ahead of any.");
        ParishYears y = Check.valleyOf("parish p 2 2 2 0;");
        e.due("tuned()", y.tuned(), -1);
        y.tune(0, 31);
        e.due("tuned() behind a NONE", y.tuned(), -1);
    }

    private void crowd() {
        e.of(29, "CROWD for n: of today and the n days behind it the one on which most FEASTS fall (of like ones the "
            + "first).");
        ParishYears x = Check.valleyOf("parish p 2 2 2 0;parish q 3 3 3 0;feast f p 0 1;feast g p 0 1;feast h q 0 1;"
            + "feast i q 2 2;feast j p 0 0;");
        e.due("crowd(0)", x.crowd(0), 1);
        e.due("crowdOn()", x.crowdOn(), 0);
        e.due("crowd(1)", x.crowd(1), 3);
        e.due("crowdOn()", x.crowdOn(), 1);
        // three again on day 37
        e.due("crowd(999)", x.crowd(999), 3);
        e.due("crowdOn(): the first", x.crowdOn(), 1);
        x.days(2);
        e.due("crowd(34)", x.crowd(34), 3);
        e.due("crowdOn(): 4a + 1 = 9b + 8 on DAY 17", x.crowdOn(), 15);
        e.due("crowd(14)", x.crowd(14), 2);
        e.due("crowdOn()", x.crowdOn(), 3);
        x.undo();
        x.days(1);
        x.hold(0);
        // p's day comes again tomorrow, without q's
        e.due("crowd(0), HELD", x.crowd(0), 3);
        e.due("crowd(9), HELD", x.crowd(9), 3);
        e.due("crowdOn(): today", x.crowdOn(), 0);
        e.of(29, "CROWD for n (0 to 999): how many FEASTS fall on it;");
        ParishYears all = Check.valleyOf("parish p 13 30 9 0;feast a p 0 1;feast b p 0 1;feast c p 0 1;feast d p 0 1;"
            + "feast e p 0 1;feast f p 0 1;");
        e.due("crowd(0): none falls", all.crowd(0), 0);
        e.due("crowd(1): all six", all.crowd(1), 6);
        ParishYears far = Check.valleyOf("parish p 13 30 9 171;leap p 9 9;feast f p 0 0;");
        e.due("crowd(999)", far.crowd(999), 1);
        ParishYears last = Check.valleyOf("parish p 2 2 2 0;leap p 1 1;feast f p 0 1;parish q 2 2 2 0;");
        e.due("crowd(0)", last.crowd(0), 0);
        e.due("crowd(999)", last.crowd(999), 1);
        e.due("crowd(0) of none", new ParishYears().crowd(0), 0);
        e.due("crowd(999) of none", new ParishYears().crowd(999), 0);
        e.of(29, "NONE: not as told.");
        e.due("crowd(1000)", all.crowd(1000), -1);
        e.due("crowd(-1)", all.crowd(-1), -1);
        e.due("crowd(most)", all.crowd(Integer.MAX_VALUE), -1);
        e.due("crowd(least)", all.crowd(Integer.MIN_VALUE), -1);
    }

    /** f falls each 390 days, g each 4: both on DAY 1 and then each 780 days, so on DAYS 1, 781 and 1561. */
    private void crowdOn() {
        e.of(30, "In how many days it is, by the latest crowd() that was not NONE;");
        ParishYears x = Late.valleyOn("parish p 13 30 9 0;parish q 2 2 2 0;feast f p 0 1;feast g q 0 1;", 562);
        e.due("crowd(998)", x.crowd(998), 2);
        e.due("crowdOn()", x.crowdOn(), 219);
        x.days(220);
        e.due("crowd(778)", x.crowd(778), 1);
        e.due("crowdOn()", x.crowdOn(), 3);
        e.due("crowd(779)", x.crowd(779), 2);
        e.due("crowdOn()", x.crowdOn(), 779);
        e.due("crowd(1000)", x.crowd(1000), -1);
        e.due("crowdOn() behind a NONE", x.crowdOn(), 779);
        x.days(1);
        e.due("crowdOn() a day later", x.crowdOn(), 779);
        e.of(30, "NONE ahead of any.");
        ParishYears y = new ParishYears();
        e.due("crowdOn()", y.crowdOn(), -1);
        y.crowd(-1);
        e.due("crowdOn() behind a NONE", y.crowdOn(), -1);
        y.crowd(5);
        e.due("crowdOn() without FEASTS", y.crowdOn(), 0);
    }
}
