/**
 * BOOKS: promises 40 and 41.
 *
 * Cases of these stand in ActsTest too, by number alone; each sentence has its own here.
 */
final class BookEdges {
    private static final String VALLEY = "parish p 2 3 3 0;parish q 2 3 3 1;feast f p 0 0;";

    private final Edges e;

    BookEdges(Edges e) {
        this.e = e;
    }

    void run() {
        bookText();
        bookLines();
        judged();
        lived();
        wrongLines();
        faulty();
        otherLives();
        why();
        then();
        latest();
    }

    private void sound(String text) {
        ParishYears x = Check.valleyOf(VALLEY);
        e.due("book(0) of " + text, Check.book(x, text, 0), -1);
        e.due("fault() of " + text, x.fault(), 0);
    }

    private void faulty(String text, int kind, int place) {
        for (int lives = 0; lives <= 1; lives++) {
            ParishYears x = Check.valleyOf(VALLEY);
            e.due("book(" + lives + ") of " + text, Check.book(x, text, lives), -2 - place);
            e.due("fault() of " + text, x.fault(), kind);
            e.due("the DAY behind " + text, x.now(0), 0);
            e.due("HELD behind " + text, x.now(1), 0);
        }
    }

    private void bookText() {
        e.of(40, "A BOOK is a text of at most 400 bytes:");
        String blanks = " ".repeat(400);
        sound("");
        sound(blanks);
        sound("p holds;" + blanks.substring(8));
        sound(blanks.substring(8) + "p holds;");
        faulty(blanks + " ", 1, 400);
        faulty("p holds;" + blanks.substring(7), 1, 400);
        faulty(blanks.substring(7) + "p holds;", 1, 400);
        e.of(40, "{ LINE ; }, 40 at most:");
        sound("day 1;".repeat(40));
        sound("p skips 1;".repeat(40));
        faulty("day 1;".repeat(41), 4, 240);
        faulty("day 1;".repeat(40) + ";", 1, 240);
        faulty("day 1", 1, 5);
        faulty("day 1;;", 1, 6);
        faulty(";", 1, 0);
        faulty("day 1 day 1;", 1, 6);
    }

    private void bookLines() {
        e.of(40, "PARISH ( 'holds' | 'skips' N (1 to 99) )");
        sound("p holds;");
        sound("q skips 1;q skips 99;");
        faulty("p skips 0;", 2, 8);
        faulty("p skips 100;", 2, 8);
        faulty("p skips 1000;", 1, 8);
        faulty("p skips;", 1, 7);
        faulty("p holds 1;", 1, 8);
        faulty("p day 1;", 1, 2);
        faulty("p p;", 1, 2);
        faulty("p;", 1, 1);
        faulty("r holds;", 3, 0);
        faulty("f holds;", 3, 0);
        faulty("skips 1;", 1, 0);
        faulty("parish holds;", 1, 0);
        faulty("1 holds;", 1, 0);
        e.of(40, "| 'day' N (1 to 999).");
        sound("day 1;day 999;");
        faulty("day 0;", 2, 4);
        faulty("day 1000;", 1, 4);
        faulty("day;", 1, 3);
        faulty("day p;", 1, 4);
        faulty("day 1 1;", 1, 6);
        ParishYears x = Check.valleyOf(VALLEY);
        Check.book(x, "p holds;q skips 7;day 2;q holds;", 1);
        e.due("COUNT of p", x.parish(0, 5), 1);
        e.due("COUNT of q", x.parish(1, 5), 10);
        e.due("HELD", x.now(1), 2);
        e.due("the DAY", x.now(0), 2);
    }

    private void judged() {
        e.of(40, "The tape is a BOOK: it is judged, all staying as it is (lives 0),");
        ParishYears x = Check.valleyOf(VALLEY);
        x.hold(1);
        e.due("book(0)", Check.book(x, "day 5;p holds;q skips 9;", 0), -1);
        e.due("the DAY", x.now(0), 0);
        e.due("HELD", x.now(1), 2);
        e.due("days HELD", x.now(5), 1);
        e.due("days SKIPPED", x.now(6), 0);
        e.due("COUNT of p", x.parish(0, 5), 0);
        e.due("COUNT of q", x.parish(1, 5), 1);
        e.due("undo(): hold() alone", x.undo(), 0);
        e.due("book(0) of a day that would be HELD", Check.book(x, "q holds;q holds;", 0), 1);
        e.due("HELD", x.now(1), 0);
    }

    private void lived() {
        e.of(40, "or lived as far as it is not WRONG (1):");
        ParishYears x = Check.valleyOf(VALLEY);
        e.due("book(1)", Check.book(x, "day 5;p holds;q skips 9;p holds;day 1;q skips 1;", 1), 3);
        e.due("the DAY", x.now(0), 5);
        e.due("HELD", x.now(1), 1);
        e.due("COUNT of p", x.parish(0, 5), 5);
        e.due("COUNT of q", x.parish(1, 5), 15);
        e.due("undo() of all of it", x.undo(), 0);
        e.due("the DAY", x.now(0), 0);
        e.due("COUNT of q", x.parish(1, 5), 1);
        e.due("book(1) without LINES", Check.book(x, "", 1), -1);
        e.due("undo(): no LINE was lived", x.undo(), -1);
        x.hold(0);
        e.due("book(1) WRONG at once", Check.book(x, "p holds;day 1;", 1), 0);
        e.due("the DAY", x.now(0), 0);
        e.due("undo(): hold() alone", x.undo(), 0);
    }

    private void wrongLines() {
        e.of(40, "the LINE that is WRONG; NONE: none;");
        ParishYears x = Check.valleyOf(VALLEY);
        x.hold(0);
        e.due("the first", Check.book(x, "p holds;", 0), 0);
        e.due("the second", Check.book(x, "q holds;p holds;p holds;", 0), 1);
        e.due("the 40th", Check.book(x, "p skips 1;".repeat(39) + "p holds;", 0), 39);
        e.due("none", Check.book(x, "q holds;", 0), -1);
        e.due("none, without LINES", Check.book(x, "", 0), -1);
    }

    private void faulty() {
        e.of(40, "-2 less the place of a FAULT;");
        faulty("?", 1, 0);
        faulty("day 1;?", 1, 6);
        faulty("p holds;p holds;day 0;", 2, 20);
        faulty(" ".repeat(399) + "?", 1, 399);
    }

    private void otherLives() {
        e.of(40, "-1000: another lives (the tape stays).");
        ParishYears x = Check.valleyOf(VALLEY);
        Check.tape(x, "p holds;");
        e.due("book(2)", x.book(2), -1000);
        e.due("book(-1)", x.book(-1), -1000);
        e.due("book(most)", x.book(Integer.MAX_VALUE), -1000);
        e.due("book(least)", x.book(Integer.MIN_VALUE), -1000);
        e.due("count(4)", x.count(4), 8);
        e.due("HELD", x.now(1), 0);
        e.due("told(0)", x.told(0), -1);
        e.due("book(1)", x.book(1), -1);
        e.due("HELD", x.now(1), 1);
        Check.tape(x, "?");
        e.due("book(2) of a tape with a FAULT", x.book(2), -1000);
        e.due("fault()", x.fault(), 0);
        e.due("count(4)", x.count(4), 1);
    }

    private void told(ParishYears x, int why, int lines, int day, int held) {
        e.due("told(0)", x.told(0), why);
        e.due("told(1)", x.told(1), lines);
        e.due("told(2)", x.told(2), day);
        e.due("told(3)", x.told(3), held);
    }

    private void why() {
        e.of(41, "0 why it was WRONG (0: it was not; 1 holding, 11 skipping; 21: fewer DAYS are left),");
        ParishYears x = Check.valleyOf(VALLEY);
        Check.book(x, "p holds;day 1;p holds;", 0);
        told(x, 0, 3, 1, 1);
        Check.book(x, "p holds;q holds;p holds;", 0);
        told(x, 1, 2, 0, 3);
        ParishYears late = Late.valleyOn(VALLEY, 9990);
        // COUNTS 9990 and 9991
        Check.book(late, "p skips 9;q skips 9;", 0);
        told(late, 11, 1, 9990, 0);
        Check.book(late, "p skips 9;q skips 8;", 0);
        told(late, 0, 2, 9990, 0);
        Check.book(late, "day 10;", 0);
        told(late, 0, 1, 10000, 0);
        Check.book(late, "day 11;", 1);
        told(late, 21, 0, 9990, 0);
        e.due("the DAY behind a LINE of too many DAYS", late.now(0), 9990);
        Check.book(late, "day 999;", 1);
        told(late, 21, 0, 9990, 0);
        Check.book(late, "day 9;p holds;day 1;day 1;", 1);
        told(late, 21, 3, 10000, 0);
        e.due("the DAY", late.now(0), 10000);
        Check.book(late, "day 1;", 1);
        told(late, 21, 0, 10000, 0);
        Check.book(late, "q holds;", 1);
        told(late, 0, 1, 10000, 2);
    }

    private void then() {
        e.of(41, "1 LINES that are not, 2 the DAY then, 3 HELD PARISHES then, as bits.");
        ParishYears x = Check.valleyOf("parish a 2 2 2 0;parish b 2 2 2 0;parish c 2 2 2 0;parish d 2 2 2 0;"
            + "parish e 2 2 2 0;");
        Check.book(x, "day 7;a holds;c holds;e holds;", 0);
        told(x, 0, 4, 7, 21);
        Check.book(x, "day 7;a holds;c holds;a holds;e holds;e holds;", 1);
        told(x, 1, 3, 7, 5);
        x.days(3);
        told(x, 1, 3, 7, 5);
        Check.book(x, "b holds;day 1;", 1);
        told(x, 0, 2, 11, 0);
        Check.book(x, "", 0);
        told(x, 0, 0, 11, 0);
        e.due("told(1) of a BOOK without PARISHES", booked(new ParishYears(), "day 1;"), 1);
        e.of(41, "NONE: another what, or ahead of any.");
        e.due("told(4)", x.told(4), -1);
        e.due("told(-1)", x.told(-1), -1);
        e.due("told(most)", x.told(Integer.MAX_VALUE), -1);
        e.due("told(least)", x.told(Integer.MIN_VALUE), -1);
        ParishYears y = Check.valleyOf(VALLEY);
        told(y, -1, -1, -1, -1);
        Check.book(y, "p holds", 0);
        y.book(2);
        told(y, -1, -1, -1, -1);
    }

    private static int booked(ParishYears x, String text) {
        Check.book(x, text, 1);
        return x.told(1);
    }

    private void latest() {
        e.of(41, "Of the latest book() that had no FAULT (and was not -1000):");
        ParishYears x = Check.valleyOf(VALLEY);
        Check.book(x, "day 4;q holds;q holds;", 0);
        told(x, 1, 2, 4, 2);
        Check.book(x, "day 9;p holds;p", 0);
        told(x, 1, 2, 4, 2);
        Check.book(x, "day 9;p holds;p", 1);
        told(x, 1, 2, 4, 2);
        Check.tape(x, "day 9;");
        x.book(2);
        told(x, 1, 2, 4, 2);
        x.end(0);
        Check.valley(x, "parish z 2 2 2 0;");
        told(x, 1, 2, 4, 2);
        Check.book(x, "z holds;", 0);
        told(x, 0, 1, 0, 1);
    }
}
