/**
 * What changes the DAYS, and what brings them back: promises 11 to 14, 38, 44 and 45.
 *
 * Cases of these stand in ActsTest too, by number alone; each sentence has its own here.
 */
final class ActEdges {
    private static final String TWO = "parish p 2 3 3 0;parish q 2 3 3 1;";
    private static final String FIVE = "parish a 2 2 2 1;parish b 2 2 2 2;parish c 2 2 2 3;parish d 2 2 2 4;"
        + "parish e 2 2 2 5;";

    private final Edges e;

    ActEdges(Edges e) {
        this.e = e;
    }

    void run() {
        hold();
        skip();
        days();
        daysGo();
        undo();
        undoKept();
        undoNone();
        drawn();
        drawnDays();
        image();
        restore();
    }

    private void hold() {
        e.of(11, "To HOLD a day: 1 it is HELD: it is (today is no day there).");
        ParishYears x = Check.valleyOf(TWO);
        e.due("hold(0)", x.hold(0), 0);
        e.due("HELD", x.now(1), 1);
        e.due("hold(0) of a HELD day", x.hold(0), 1);
        e.due("HELD", x.now(1), 1);
        e.due("days HELD so far", x.now(5), 1);
        e.due("COUNT", x.parish(0, 5), 0);
        e.of(11, "A PARISH HOLDS the day: 0, or why not;");
        e.due("hold(1)", x.hold(1), 0);
        e.due("HELD", x.now(1), 3);
        x.days(1);
        e.due("hold(0) on the next day", x.hold(0), 0);
        e.due("days HELD so far", x.parish(0, 7), 2);
        ParishYears over = Late.valleyOn(TWO, 10000);
        e.due("hold(1) when all are over", over.hold(1), 0);
        e.due("hold(1) once more", over.hold(1), 1);
        e.of(11, "NONE: no such one.");
        e.due("hold(2)", x.hold(2), -1);
        e.due("hold(-1)", x.hold(-1), -1);
        e.due("hold(32)", x.hold(32), -1);
        e.due("hold(most)", x.hold(Integer.MAX_VALUE), -1);
        e.due("hold(least)", x.hold(Integer.MIN_VALUE), -1);
        e.due("HELD", x.now(1), 1);
        ParishYears none = new ParishYears();
        e.due("hold(0) of none", none.hold(0), -1);
        e.due("undo() behind it", none.undo(), -1);
    }

    private void skip() {
        e.of(12, "To SKIP n (1 to 99): 1 the COUNT would be above 9999: the COUNT is n more.");
        ParishYears x = Late.valleyOn("parish p 2 3 3 900;parish q 2 3 3 0;", 9000);
        e.due("skip(0, 99) of 9900, to 9999", x.skip(0, 99), 0);
        e.due("COUNT", x.parish(0, 5), 9999);
        x.undo();
        x.skip(0, 1);
        e.due("skip(0, 99) of 9901, to 10000", x.skip(0, 99), 1);
        e.due("COUNT", x.parish(0, 5), 9901);
        e.due("days SKIPPED so far", x.parish(0, 8), 1);
        e.due("skip(0, 98) of 9901, to 9999", x.skip(0, 98), 0);
        e.due("skip(0, 1) of 9999", x.skip(0, 1), 1);
        x.days(1);
        e.due("COUNT behind a DAY", x.parish(0, 5), 10000);
        e.due("skip(0, 1) of 10000", x.skip(0, 1), 1);
        e.due("skip(1, 1) of the other one", x.skip(1, 1), 0);
        e.of(12, "It SKIPS n (1 to 99) days: 0, or why not;");
        ParishYears y = Check.valleyOf(TWO);
        e.due("skip(0, 1)", y.skip(0, 1), 0);
        e.due("COUNT", y.parish(0, 5), 1);
        e.due("skip(0, 99)", y.skip(0, 99), 0);
        e.due("COUNT", y.parish(0, 5), 100);
        y.hold(1);
        e.due("skip(1, 4) on a HELD day", y.skip(1, 4), 0);
        e.due("COUNT", y.parish(1, 5), 5);
        e.due("HELD still", y.now(1), 2);
        y.days(1);
        e.due("COUNT behind it", y.parish(1, 5), 5);
        ParishYears over = Late.valleyOn("parish p 2 2 2 0;", 9999);
        over.hold(0);
        over.days(1);
        e.due("skip(0, 1) of 9999 when all are over", over.skip(0, 1), 1);
        e.of(12, "NONE: no such ones.");
        e.due("skip(0, 0)", y.skip(0, 0), -1);
        e.due("skip(0, 100)", y.skip(0, 100), -1);
        e.due("skip(0, -1)", y.skip(0, -1), -1);
        e.due("skip(0, most)", y.skip(0, Integer.MAX_VALUE), -1);
        e.due("skip(0, least)", y.skip(0, Integer.MIN_VALUE), -1);
        e.due("skip(2, 1)", y.skip(2, 1), -1);
        e.due("skip(-1, 1)", y.skip(-1, 1), -1);
        e.due("COUNT", y.parish(0, 5), 101);
        e.due("skip(0, 1) of none", new ParishYears().skip(0, 1), -1);
    }

    private void days() {
        e.of(13, "A DAY (0 to 9999; 10000: all are over) goes:");
        ParishYears x = Late.valleyOn("parish p 2 2 2 0;", 9998);
        e.due("days(1) of DAY 9998", x.days(1), 1);
        e.due("days(1) of DAY 9999", x.days(1), 1);
        e.due("the DAY", x.now(0), 10000);
        e.due("days(1) of DAY 10000", x.days(1), 0);
        e.due("the DAY", x.now(0), 10000);
        e.due("COUNT", x.parish(0, 5), 10000);
        x.hold(0);
        e.due("days(1) of DAY 10000, HELD", x.days(1), 0);
        e.due("HELD still", x.now(1), 1);
        e.of(13, "n (1 to 999) DAYS go by: how many did;");
        ParishYears y = Check.valleyOf(TWO);
        e.due("days(1)", y.days(1), 1);
        e.due("days(999)", y.days(999), 999);
        e.due("the DAY", y.now(0), 1000);
        Late.goTo(y, 9001);
        e.due("days(999) of DAY 9001, all that are left", y.days(999), 999);
        y.undo();
        y.days(1);
        e.due("days(999) of DAY 9002", y.days(999), 998);
        e.due("the DAY", y.now(0), 10000);
        e.due("COUNT", y.parish(1, 5), 10001);
        e.of(13, "NONE: not as told.");
        e.due("days(0)", y.days(0), -1);
        e.due("days(1000)", y.days(1000), -1);
        ParishYears z = new ParishYears();
        e.due("days(0)", z.days(0), -1);
        e.due("days(1000)", z.days(1000), -1);
        e.due("days(-1)", z.days(-1), -1);
        e.due("days(most)", z.days(Integer.MAX_VALUE), -1);
        e.due("days(least)", z.days(Integer.MIN_VALUE), -1);
        e.due("the DAY", z.now(0), 0);
        e.due("undo()", z.undo(), -1);
    }

    private void daysGo() {
        e.of(13, "each PARISH whose day is HELD keeps its COUNT, and it is HELD no more;");
        ParishYears x = Check.valleyOf(TWO);
        x.hold(0);
        x.days(1);
        e.due("COUNT of the one HELD", x.parish(0, 5), 0);
        e.due("HELD no more", x.now(1), 0);
        x.hold(0);
        x.days(9);
        e.due("COUNT behind 9 days, the first HELD", x.parish(0, 5), 8);
        e.of(13, "the COUNT of each other one is 1 more. It is the next DAY.");
        e.due("COUNT of the other one", x.parish(1, 5), 11);
        e.due("the DAY", x.now(0), 10);
        x.hold(1);
        x.hold(0);
        x.days(1);
        e.due("COUNT, both HELD", x.parish(0, 5), 8);
        e.due("COUNT, both HELD", x.parish(1, 5), 11);
        e.due("the DAY", x.now(0), 11);
    }

    private void undo() {
        e.of(14, "The latest of hold(), skip() that was done, days() above 0, drawn() above 0, a BOOK of which some "
            + "LINE was lived is undone:");
        ParishYears x = Check.valleyOf(TWO);
        x.hold(0);
        x.skip(1, 9);
        x.days(2);
        x.drawn(1, Draws.seedOf(5, 5));
        Check.book(x, "q holds;q holds;", 1);
        e.due("HELD by the BOOK", x.now(1), 2);
        e.due("undo() of the BOOK", x.undo(), 4);
        e.due("HELD", x.now(1), 0);
        e.due("the DAY", x.now(0), 3);
        e.due("undo() of drawn()", x.undo(), 3);
        e.due("the DAY", x.now(0), 2);
        e.due("COUNT", x.parish(0, 5), 1);
        e.due("undo() of days()", x.undo(), 2);
        e.due("the DAY", x.now(0), 0);
        e.due("HELD again", x.now(1), 1);
        e.due("COUNT", x.parish(1, 5), 10);
        e.due("undo() of skip()", x.undo(), 1);
        e.due("COUNT", x.parish(1, 5), 1);
        e.due("days SKIPPED so far", x.parish(1, 8), 0);
        e.due("undo() of hold()", x.undo(), 0);
        e.due("HELD", x.now(1), 0);
        e.due("days HELD so far", x.parish(0, 7), 0);
        e.due("hold() that was undone", x.hold(0), 0);
        e.due("it can be undone", x.undo(), 0);
        undoOfAll();
    }

    private void undoOfAll() {
        ParishYears x = Check.valleyOf(FIVE);
        Check.book(x, "a skips 10;b skips 20;c skips 30;d skips 40;e skips 50;a holds;b holds;c holds;d holds;e holds;",
            1);
        x.days(3);
        x.undo();
        for (int p = 0; p < 5; p++) {
            allOf(x, p, 11 * p + 11, 1, 10 * p + 10);
        }
        x.undo();
        for (int p = 0; p < 5; p++) {
            allOf(x, p, p + 1, 0, 0);
        }
    }

    private void allOf(ParishYears x, int p, int count, int held, int skipped) {
        e.due("COUNT of PARISH " + p, x.parish(p, 5), count);
        e.due("HELD of PARISH " + p, x.parish(p, 6), held);
        e.due("days HELD of PARISH " + p, x.parish(p, 7), held);
        e.due("days SKIPPED of PARISH " + p, x.parish(p, 8), skipped);
    }

    private void undoKept() {
        e.of(14, "how many more can be (8 at most are kept);");
        ParishYears x = Check.valleyOf(TWO);
        for (int i = 0; i < 8; i++) {
            x.days(1);
        }
        for (int left = 7; left >= 0; left--) {
            e.due("undo() of eight", x.undo(), left);
            e.due("the DAY", x.now(0), left);
        }
        e.due("undo() of none", x.undo(), -1);
        for (int i = 0; i < 9; i++) {
            x.days(1);
        }
        for (int left = 7; left >= 0; left--) {
            e.due("undo() of nine", x.undo(), left);
            e.due("the DAY", x.now(0), left + 1);
        }
        e.due("undo() of the ninth", x.undo(), -1);
        e.due("the DAY", x.now(0), 1);
        for (int i = 0; i < 20; i++) {
            x.skip(0, 1);
        }
        e.due("undo()", x.undo(), 7);
        x.skip(0, 50);
        e.due("undo() of that", x.undo(), 7);
        e.due("undo()", x.undo(), 6);
        e.due("COUNT", x.parish(0, 5), 19);
    }

    private void undoNone() {
        e.of(14, "NONE: none is.");
        ParishYears x = Check.valleyOf(TWO);
        e.due("ahead of any", x.undo(), -1);
        x.hold(9);
        x.skip(0, 0);
        x.days(0);
        x.drawn(0, 1);
        Check.book(x, "p holds;", 0);
        Check.book(x, "p holds", 1);
        Check.book(x, "", 1);
        Check.sentence(x, "held");
        x.image(0);
        x.odds(0, 1, 1);
        e.due("behind calls that do nothing", x.undo(), -1);
        x.hold(0);
        x.hold(0);
        Check.book(x, "p holds;day 1;", 1);
        e.due("behind a BOOK whose first LINE is WRONG: hold()", x.undo(), 0);
        e.due("then", x.undo(), -1);
        ParishYears over = Late.valleyOn("parish p 2 3 3 0;", 9999);
        over.hold(0);
        over.days(1);
        e.due("days(9) when all are over", over.days(9), 0);
        e.due("drawn(9, 1) then", over.drawn(9, 1), 0);
        e.due("skip() refused then", over.skip(0, 1), 1);
        e.due("undo(): days(1)", over.undo(), 7);
        e.due("the DAY", over.now(0), 9999);
        e.due("HELD", over.now(1), 1);
    }

    private void drawn() {
        e.of(38, "n (1 to 99) DAYS DRAWN by a seed: how many went by;");
        ParishYears x = Check.valleyOf(TWO);
        e.due("drawn(1, 7)", x.drawn(1, 7), 1);
        e.due("drawn(99, 7)", x.drawn(99, 7), 99);
        e.due("the DAY", x.now(0), 100);
        e.due("drawn(1, most)", x.drawn(1, Integer.MAX_VALUE), 1);
        e.due("drawn(1, least)", x.drawn(1, Integer.MIN_VALUE), 1);
        ParishYears late = Late.valleyOn("parish p 2 3 3 0;", 9901);
        e.due("drawn(99, 7) of DAY 9901", late.drawn(99, 7), 99);
        e.due("drawn(1, 7) of DAY 10000", late.drawn(1, 7), 0);
        late.undo();
        late.days(1);
        e.due("drawn(99, 7) of DAY 9902", late.drawn(99, 7), 98);
        e.due("the DAY", late.now(0), 10000);
        int count = late.parish(0, 5);
        e.due("drawn(99, 8) of DAY 10000", late.drawn(99, 8), 0);
        e.due("COUNT", late.parish(0, 5), count);
        e.due("HELD", late.now(1), 0);
        e.due("drawn() of none", new ParishYears().drawn(99, 1), 99);
        e.of(38, "NONE: not as told.");
        e.due("drawn(0, 1)", x.drawn(0, 1), -1);
        e.due("drawn(100, 1)", x.drawn(100, 1), -1);
        e.due("drawn(-1, 1)", x.drawn(-1, 1), -1);
        e.due("drawn(most, 1)", x.drawn(Integer.MAX_VALUE, 1), -1);
        e.due("drawn(least, 1)", x.drawn(Integer.MIN_VALUE, 1), -1);
        e.due("the DAY", x.now(0), 102);
    }

    private void drawnDays() {
        e.of(38, "DRAWN by a seed x: for each draw of n x becomes x * 1103515245 + 12345 (an int, wrapping), the draw "
            + "is (x >>> 8) % n:");
        for (int seed : new int[] {0, 1, -1, 12345, Integer.MAX_VALUE, Integer.MIN_VALUE}) {
            ParishYears x = Check.valleyOf("parish p 13 30 9 0;");
            x.drawn(99, seed);
            e.due("COUNT behind drawn(99, " + seed + ")", x.parish(0, 5), Draws.counts(seed, 0, 99)[98]);
        }
        e.of(38, "each DAY: PARISH by PARISH: a draw of 12: 0 it HOLDS the day;");
        ParishYears x = Check.valleyOf(TWO);
        x.drawn(1, Draws.seedOf(0, 7));
        e.due("COUNT of the first, HELD", x.parish(0, 5), 0);
        e.due("days HELD so far", x.parish(0, 7), 1);
        e.due("COUNT of the second", x.parish(1, 5), 2);
        x.drawn(1, Draws.seedOf(11, 0));
        e.due("COUNT of the first", x.parish(0, 5), 1);
        e.due("COUNT of the second, HELD", x.parish(1, 5), 2);
        e.due("days HELD so far", x.parish(1, 7), 1);
        e.of(38, "1: a draw of 9 (and 1): it SKIPS so many");
        for (int n = 1; n <= 9; n += 8) {
            int seed = 0;
            while (Draws.counts(seed, 0, 1)[0] != n + 1) {
                seed++;
            }
            ParishYears y = Check.valleyOf("parish p 2 3 3 0;");
            y.drawn(1, seed);
            e.due("days SKIPPED", y.parish(0, 8), n);
            e.due("COUNT", y.parish(0, 5), n + 1);
        }
        drawnIfItCanBe();
    }

    private void drawnIfItCanBe() {
        e.of(38, "(each, if it can be); then the DAY.");
        ParishYears x = Check.valleyOf(TWO);
        x.hold(0);
        x.drawn(1, Draws.seedOf(0, 7));
        e.due("days HELD, of a day that was HELD", x.parish(0, 7), 1);
        e.due("COUNT", x.parish(0, 5), 0);
        e.due("HELD no more", x.now(1), 0);
        e.due("the DAY", x.now(0), 1);
        int seed = 0;
        while (Draws.counts(seed, 0, 1)[0] != 4) {
            seed++;
        }
        ParishYears y = Late.valleyOn("parish p 2 3 3 0;", 9996);
        y.drawn(1, seed);
        e.due("COUNT of 9996, 3 more and 1", y.parish(0, 5), 10000);
        y.undo();
        y.days(1);
        y.drawn(1, seed);
        e.due("COUNT of 9997, that can't SKIP 3", y.parish(0, 5), 9998);
        e.due("days SKIPPED", y.parish(0, 8), 0);
        ParishYears z = Check.valleyOf("parish p 2 3 3 0;");
        z.hold(0);
        z.drawn(1, seed);
        e.due("COUNT, SKIPPED on a HELD day", z.parish(0, 5), 3);
    }

    private void image() {
        e.of(44, "VALLEY, all that is so and the SENTENCE are kept in place k (0, 1): true;");
        ParishYears x = Check.valleyOf("parish p 2 3 3 0;feast f p 0 2;sun 7 3;");
        Check.sentence(x, "held");
        x.skip(0, 5);
        x.days(2);
        x.hold(0);
        e.due("image(0)", x.image(0), true);
        Check.valley(x, "parish a 3 3 3 3;parish b 3 3 3 3;");
        x.days(9);
        e.due("image(1)", x.image(1), true);
        e.due("undo() behind image()", x.undo(), 0);
        Check.valley(x, "");
        x.restore(0);
        e.due("count(0)", x.count(0), 1);
        e.due("count(1)", x.count(1), 1);
        e.due("count(2)", x.count(2), 7);
        e.due("count(3)", x.count(3), 3);
        e.due("the DAY", x.now(0), 2);
        e.due("HELD", x.now(1), 1);
        e.due("days HELD so far", x.parish(0, 7), 1);
        e.due("days SKIPPED so far", x.parish(0, 8), 5);
        e.due("COUNT", x.parish(0, 5), 7);
        e.due("the SENTENCE", x.said(0), 0);
        x.restore(1);
        e.due("count(0)", x.count(0), 2);
        e.due("the DAY", x.now(0), 9);
        e.due("no SENTENCE", x.said(-1), -1);
        x.days(1);
        e.due("image(1) once more", x.image(1), true);
        x.days(1);
        x.restore(1);
        e.due("the DAY of the latest", x.now(0), 10);
        e.of(44, "false: no such one.");
        e.due("image(2)", x.image(2), false);
        e.due("image(-1)", x.image(-1), false);
        e.due("image(most)", x.image(Integer.MAX_VALUE), false);
        e.due("image(least)", x.image(Integer.MIN_VALUE), false);
    }

    private void restore() {
        e.of(45, "They are as kept in place k");
        ParishYears x = Check.valleyOf(TWO);
        x.days(3);
        x.image(0);
        x.days(3);
        x.hold(1);
        e.due("restore(0)", x.restore(0), true);
        e.due("the DAY", x.now(0), 3);
        e.due("HELD", x.now(1), 0);
        x.days(5);
        e.due("restore(0) once more", x.restore(0), true);
        e.due("the DAY", x.now(0), 3);
        ParishYears five = Check.valleyOf(FIVE + "feast f a 0 0;feast g b 0 1;feast h c 1 0;feast i d 1 1;feast j e 0 0;"
            + "feast k a 0 1;");
        Check.book(five, "a skips 10;b skips 20;c skips 30;d skips 40;e skips 50;a holds;b holds;c holds;d holds;"
            + "e holds;", 1);
        five.image(0);
        Check.valley(five, "");
        five.restore(0);
        for (int p = 0; p < 5; p++) {
            allOf(five, p, 11 * p + 11, 1, 10 * p + 10);
            e.due("FEAST " + p, five.feast(p, 0), p);
        }
        e.due("FEAST 5", five.feast(5, 2), 1);
        ParishYears empty = new ParishYears();
        empty.image(1);
        Check.valley(empty, TWO);
        e.due("restore(1) of none", empty.restore(1), true);
        e.due("count(0)", empty.count(0), 0);
        e.of(45, "(the tape, and what other calls told last, stays;");
        ParishYears y = Check.valleyOf("parish p 2 3 3 0;parish q 2 3 3 1;feast f p 0 2;sun 13 2;");
        y.image(1);
        y.skip(1, 1);
        y.title(1);
        y.tune(0, 2);
        y.agree(1, 0);
        y.match(1, 1, 3);
        y.reform();
        y.crowd(5);
        Check.book(y, "p holds;p holds;", 0);
        Check.sentence(y, "with nobody");
        y.feed(0, 0, 0, 0, 0);
        e.due("restore(1)", y.restore(1), true);
        e.due("the tape", y.count(4), 20);
        e.due("byteAt(0)", y.byteAt(0), 'q');
        e.due("tuned()", y.tuned(), 1);
        e.due("agreeing()", y.agreeing(), 0);
        e.due("matchOn()", y.matchOn(), 0);
        e.due("reformTo()", y.reformTo(), 1);
        e.due("crowdOn()", y.crowdOn(), 2);
        e.due("told(0)", y.told(0), 1);
        e.due("fault()", y.fault(), 3);
        e.of(45, "nothing can be undone): true;");
        ParishYears z = Check.valleyOf(TWO);
        z.hold(0);
        z.image(0);
        z.days(1);
        e.due("restore(0)", z.restore(0), true);
        e.due("undo()", z.undo(), -1);
        e.due("HELD still", z.now(1), 1);
        z.days(1);
        e.due("undo() of what was done since", z.undo(), 0);
        e.of(45, "false: no such one, or nothing is kept there.");
        e.due("restore(1), of which nothing is kept", z.restore(1), false);
        e.due("restore(2)", z.restore(2), false);
        e.due("restore(-1)", z.restore(-1), false);
        e.due("restore(most)", z.restore(Integer.MAX_VALUE), false);
        e.due("restore(least)", z.restore(Integer.MIN_VALUE), false);
        z.days(1);
        z.restore(1);
        e.due("undo() behind a restore() that was none", z.undo(), 0);
    }
}
