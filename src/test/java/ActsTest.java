/** Promises 11 to 14, 38, 40, 41, 44 and 45: what changes the DAYS, and what brings them back. */
public final class ActsTest {
    private static final Check check = new Check();
    private static final String VALLEY = "parish oak 2 3 3 0;leap oak 2 2;parish elm 3 2 2 1;"
        + "feast wake oak 1 2;feast yule elm 0 0;sun 13 2;";

    public static void main(String[] args) {
        hold();
        skip();
        days();
        undo();
        drawn();
        bookFaults();
        bookJudged();
        bookLived();
        images();
        check.end();
    }

    private static void hold() {
        ParishYears x = Check.valleyOf(VALLEY);
        check.due("11 hold(0)", x.hold(0), 0);
        check.due("11 hold(0) again", x.hold(0), 1);
        check.due("11 it is counted once", x.parish(0, 7), 1);
        check.due("11 hold(2)", x.hold(2), -1);
        check.due("11 hold(-1)", x.hold(-1), -1);
        x.days(1);
        check.due("11 the COUNT is kept", x.parish(0, 5), 0);
        check.due("11 the other one goes on", x.parish(1, 5), 2);
        check.due("11 hold(0) on the next day", x.hold(0), 0);
        x.days(3);
        check.due("11 one day alone is HELD", x.parish(0, 5), 2);
    }

    private static void skip() {
        ParishYears x = Check.valleyOf("parish p 2 2 2 999;");
        check.due("12 skip(0, 0)", x.skip(0, 0), -1);
        check.due("12 skip(0, 100)", x.skip(0, 100), -1);
        check.due("12 skip(1, 1)", x.skip(1, 1), -1);
        check.due("12 skip(-1, 1)", x.skip(-1, 1), -1);
        for (int i = 0; i < 90; i++) {
            check.due("12 skip(0, 99)", x.skip(0, 99), 0);
        }
        check.due("12 COUNT", x.parish(0, 5), 999 + 90 * 99);
        check.due("12 skip beyond 9999", x.skip(0, 91), 1);
        check.due("12 COUNT stays", x.parish(0, 5), 9909);
        check.due("12 skip to 9999", x.skip(0, 90), 0);
        check.due("12 skip(0, 1)", x.skip(0, 1), 1);
        check.due("12 days SKIPPED", x.parish(0, 8), 9000);
        x.days(2);
        check.due("12 the COUNT goes on", x.parish(0, 5), 10001);
        check.due("12 skip(0, 1) beyond", x.skip(0, 1), 1);
        ParishYears y = Check.valleyOf(VALLEY);
        y.hold(0);
        check.due("12 a HELD one skips", y.skip(0, 3), 0);
        y.days(1);
        check.due("12 COUNT", y.parish(0, 5), 3);
    }

    private static void days() {
        ParishYears x = Check.valleyOf(VALLEY);
        check.due("13 days(0)", x.days(0), -1);
        check.due("13 days(1000)", x.days(1000), -1);
        check.due("13 days(-1)", x.days(-1), -1);
        for (int i = 0; i < 10; i++) {
            check.due("13 days(999)", x.days(999), 999);
        }
        check.due("13 the DAY", x.now(0), 9990);
        check.due("13 days(999) at the end", x.days(999), 10);
        check.due("13 the DAY", x.now(0), 10000);
        check.due("13 days(1) behind it", x.days(1), 0);
        check.due("13 COUNT", x.parish(0, 5), 10000);
        check.due("13 hold behind it", x.hold(0), 0);
    }

    private static void undo() {
        ParishYears x = Check.valleyOf(VALLEY);
        check.due("14 nothing", x.undo(), -1);
        x.hold(0);
        x.hold(0);
        x.hold(7);
        x.skip(0, 5);
        x.skip(0, 0);
        x.days(3);
        x.drawn(4, 9);
        Check.book(x, "elm skips 2;", 1);
        Check.book(x, "elm skips 2;", 0);
        Check.book(x, "", 1);
        check.due("14 the BOOK", x.undo(), 4);
        check.due("14 days SKIPPED", x.now(0), 7);
        check.due("14 drawn()", x.undo(), 3);
        check.due("14 the DAY", x.now(0), 3);
        check.due("14 days()", x.undo(), 2);
        check.due("14 the DAY", x.now(0), 0);
        check.due("14 HELD", x.now(1), 1);
        check.due("14 COUNT", x.parish(0, 5), 5);
        check.due("14 skip()", x.undo(), 1);
        check.due("14 COUNT", x.parish(0, 5), 0);
        check.due("14 days SKIPPED", x.now(6), 0);
        check.due("14 hold()", x.undo(), 0);
        check.due("14 HELD", x.now(1), 0);
        check.due("14 days HELD", x.now(5), 0);
        check.due("14 nothing more", x.undo(), -1);
        for (int i = 0; i < 11; i++) {
            x.days(1);
        }
        for (int i = 7; i >= 0; i--) {
            check.due("14 of eight", x.undo(), i);
        }
        check.due("14 eight are kept", x.undo(), -1);
        check.due("14 the DAY", x.now(0), 3);
        undoOfNothing();
    }

    private static void undoOfNothing() {
        ParishYears x = Check.valleyOf(VALLEY);
        Check.book(x, "oak holds;oak holds;", 1);
        Check.book(x, "oak holds;day 1;", 1);
        check.due("14 a BOOK whose first LINE was WRONG is none", x.undo(), 0);
        for (int i = 0; i < 11; i++) {
            x.days(999);
        }
        check.due("14 days() of 0", x.days(1), 0);
        check.due("14 drawn() of 0", x.drawn(9, 1), 0);
        check.due("14 is none", x.undo(), 7);
        check.due("14 the DAY", x.now(0), 9990);
    }

    private static void drawn() {
        ParishYears x = Check.valleyOf(VALLEY);
        check.due("38 drawn(0, 1)", x.drawn(0, 1), -1);
        check.due("38 drawn(100, 1)", x.drawn(100, 1), -1);
        check.due("38 drawn(99, 5)", x.drawn(99, 5), 99);
        int[] count = {0, 1};
        int[] held = {0, 0};
        int[] skipped = {0, 0};
        int seed = 5;
        for (int day = 0; day < 99; day++) {
            for (int p = 0; p < 2; p++) {
                seed = seed * 1103515245 + 12345;
                int draw = (seed >>> 8) % 12;
                if (draw == 0) {
                    held[p]++;
                    continue;
                }
                if (draw == 1) {
                    seed = seed * 1103515245 + 12345;
                    int n = (seed >>> 8) % 9 + 1;
                    count[p] += n;
                    skipped[p] += n;
                }
                count[p]++;
            }
        }
        for (int p = 0; p < 2; p++) {
            check.due("38 COUNT", x.parish(p, 5), count[p]);
            check.due("38 days HELD", x.parish(p, 7), held[p]);
            check.due("38 days SKIPPED", x.parish(p, 8), skipped[p]);
            check.due("38 some are", held[p] > 0 && skipped[p] > 0, true);
        }
        check.due("38 the DAY", x.now(0), 99);
        for (int i = 0; i < 10; i++) {
            x.days(999);
        }
        x.undo();
        x.days(900);
        check.due("38 to the last DAY", x.drawn(99, 1), 10);
        check.due("38 the DAY", x.now(0), 10000);
    }

    private static void faulty(String text, int kind, int place) {
        ParishYears x = Check.valleyOf(VALLEY);
        check.due("40 book: " + text, Check.book(x, text, 1), -2 - place);
        check.due("5 fault: " + text, x.fault(), kind);
        check.due("40 nothing is lived: " + text, x.now(0), 0);
        check.due("40 the tape is empty then: " + text, x.count(4), 0);
        check.due("41 none is told: " + text, x.told(0), -1);
        check.due("14 nothing to undo: " + text, x.undo(), -1);
    }

    private static void bookFaults() {
        faulty("x", 3, 0);
        faulty("wake holds;", 3, 0);
        faulty("holds;", 1, 0);
        faulty("12;", 1, 0);
        faulty(";", 1, 0);
        faulty("oak", 1, 3);
        faulty("oak keeps;", 1, 4);
        faulty("oak holds", 1, 9);
        faulty("oak holds oak", 1, 10);
        faulty("oak skips;", 1, 9);
        faulty("oak skips 0;", 2, 10);
        faulty("oak skips 100;", 2, 10);
        faulty("day 0;", 2, 4);
        faulty("day 1000;", 1, 4);
        faulty("day;", 1, 3);
        faulty("day 1;day oak;", 1, 10);
        faulty("day 1;oak holds 1;", 1, 16);
        String forty = Check.repeated("day 1;", 40);
        faulty(forty + "day 1;", 4, 240);
        faulty(forty + "\noak", 4, 241);
        faulty(forty + "nobody", 3, 240);
        faulty(forty + "held", 1, 240);
        String blanks = Check.repeated(" ", 400);
        faulty("day 1;" + blanks, 1, 400);
        faulty(blanks.substring(5) + "day 0;", 2, 399);
        faulty(blanks.substring(5) + "day 1;", 1, 400);
        ParishYears x = Check.valleyOf(VALLEY);
        check.due("40 of forty LINES", Check.book(x, forty, 1), -1);
        check.due("40 the DAY", x.now(0), 40);
        check.due("41 LINES", x.told(1), 40);
        check.due("40 of 400 bytes", Check.book(x, blanks.substring(6) + "day 1;", 1), -1);
    }

    private static void bookJudged() {
        ParishYears x = Check.valleyOf(VALLEY);
        check.due("41 ahead of any", x.told(0), -1);
        Check.tape(x, "oak holds;day 2;elm holds;");
        check.due("40 book(2)", x.book(2), -1000);
        check.due("40 book(-1)", x.book(-1), -1000);
        check.due("40 the tape stays", x.count(4), 26);
        check.due("41 ahead of any", x.told(0), -1);
        check.due("40 book(0)", x.book(0), -1);
        check.due("40 all stays: DAY", x.now(0), 0);
        check.due("40 all stays: HELD", x.now(1), 0);
        check.due("40 all stays: days HELD", x.now(5), 0);
        check.due("40 all stays: COUNT", x.parish(1, 5), 1);
        check.due("14 nothing to undo", x.undo(), -1);
        check.due("41 told(0)", x.told(0), 0);
        check.due("41 told(1)", x.told(1), 3);
        check.due("41 told(2)", x.told(2), 2);
        check.due("41 told(3)", x.told(3), 2);
        check.due("41 told(4)", x.told(4), -1);
        check.due("41 told(-1)", x.told(-1), -1);
        check.due("40 book with a FAULT", Check.book(x, "oak holds;?", 0), -2 - 10);
        check.due("5 fault()", x.fault(), 1);
        check.due("40 book(2)", x.book(2), -1000);
        check.due("5 fault() is left", x.fault(), 1);
        check.due("41 the latest without a FAULT", x.told(1), 3);
    }

    private static void wrong(ParishYears x, String text, int line, int why, int day, int held) {
        check.due("40 book: " + text, Check.book(x, text, 1), line);
        check.due("5 fault: " + text, x.fault(), 0);
        check.due("41 told(0): " + text, x.told(0), why);
        check.due("41 told(1): " + text, x.told(1), line);
        check.due("41 told(2): " + text, x.told(2), day);
        check.due("41 told(3): " + text, x.told(3), held);
    }

    private static void bookLived() {
        ParishYears x = Check.valleyOf(VALLEY);
        wrong(x, "day 3;oak holds;elm skips 9;oak holds;day 9;", 3, 1, 3, 1);
        check.due("40 lived as far: DAY", x.now(0), 3);
        check.due("40 lived as far: COUNT", x.parish(1, 5), 13);
        check.due("40 lived as far: HELD", x.now(1), 1);
        check.due("14 the BOOK is one act", x.undo(), 0);
        check.due("14 DAY", x.now(0), 0);
        wrong(x, "day 999;day 999;day 999;day 999;day 999;day 999;day 999;day 999;day 999;day 999;day 11;day 1;",
            10, 21, 9990, 0);
        check.due("40 the WRONG LINE is not lived", x.now(0), 9990);
        check.due("40 to the last DAY", Check.book(x, "day 10;", 1), -1);
        wrong(x, "elm skips 1;", 0, 11, 10000, 0);
        wrong(x, "oak holds;elm skips 1;", 1, 11, 10000, 1);
        wrong(x, "day 1;", 0, 21, 10000, 1);
    }

    private static void images() {
        ParishYears x = Check.valleyOf(VALLEY);
        check.due("44 image(-1)", x.image(-1), false);
        check.due("44 image(2)", x.image(2), false);
        check.due("45 restore(0) of nothing", x.restore(0), false);
        check.due("45 restore(-1)", x.restore(-1), false);
        check.due("45 restore(2)", x.restore(2), false);
        Check.sentence(x, "held");
        x.hold(0);
        x.days(2);
        x.skip(1, 5);
        x.hold(1);
        check.due("44 image(0)", x.image(0), true);
        check.due("45 restore(1) of nothing", x.restore(1), false);
        check.due("44 an image leaves what can be undone", x.undo(), 3);
        Check.valley(x, "parish ash 5 5 5 5;sun 7 7;");
        check.due("44 image(1)", x.image(1), true);
        x.days(9);
        x.title(0);
        x.tune(0, 9);
        x.feed(1, 2, 3, 4, 5);
        check.due("45 restore(0)", x.restore(0), true);
        check.due("45 PARISHES", x.count(0), 2);
        check.due("45 FEASTS", x.count(1), 2);
        check.due("45 sun", x.count(2), 13);
        check.due("45 the tape stays", x.count(4), 20);
        check.due("45 DAY", x.now(0), 2);
        check.due("45 HELD", x.now(1), 2);
        check.due("45 days HELD", x.now(5), 2);
        check.due("45 days SKIPPED", x.now(6), 5);
        check.due("45 COUNT", x.parish(0, 5), 1);
        check.due("45 the SENTENCE", x.said(0), 1);
        check.due("45 the TITLE stays", x.byteAt(0), 'a');
        check.due("45 what tune() told stays", x.tuned() != -1, true);
        check.due("45 nothing can be undone", x.undo(), -1);
        x.days(1);
        check.due("45 restore(1)", x.restore(1), true);
        check.due("45 DAY", x.now(0), 0);
        check.due("45 no SENTENCE", x.said(-1), -1);
        check.due("45 nothing can be undone", x.undo(), -1);
        check.due("45 restore(0) once more", x.restore(0), true);
        check.due("45 DAY", x.now(0), 2);
        x.days(1);
        check.due("45 undo behind it", x.undo(), 0);
    }
}
