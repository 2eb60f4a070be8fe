/**
 * SENTENCES: promises 42 and 43.
 *
 * Cases of these stand in SentenceTest too, by number alone; each sentence has its own here.
 */
final class SentenceEdges {
    private static final String VALLEY = "parish oak 2 3 3 0;leap oak 2 2;parish elm 3 2 2 1;parish ash 2 3 3 6;"
        + "feast wake oak 1 2;feast yule elm 0 0;";
    private static final String FIVE = "parish a 2 2 2 0;parish b 2 2 2 0;parish c 2 2 2 0;parish d 2 2 2 0;"
        + "parish e 2 2 2 0;";

    private final Edges e;

    SentenceEdges(Edges e) {
        this.e = e;
    }

    void run() {
        length();
        grammar();
        nots();
        ofToday();
        withOthers();
        figures();
        signs();
        many();
        ones();
        itStays();
        said();
        saidNone();
    }

    private void sound(String text, int ones) {
        ParishYears x = Check.valleyOf(VALLEY);
        e.due("sentence() of " + text, Check.sentence(x, text), ones);
        e.due("fault() of " + text, x.fault(), 0);
    }

    private void faulty(String text, int kind, int place) {
        ParishYears x = Check.valleyOf(VALLEY);
        e.due("sentence() of " + text, Check.sentence(x, text), -1 - place);
        e.due("fault() of " + text, x.fault(), kind);
    }

    /** Of whom it may be said, as bits. */
    private void said(ParishYears x, String text, int want) {
        Check.sentence(x, text);
        int bits = 0;
        int many = x.said(-1);
        for (int k = 0; k < many; k++) {
            bits |= 1 << x.said(k);
        }
        e.due("said() of " + text, many < 0 ? -1 : bits, want);
    }

    private void length() {
        e.of(42, "A SENTENCE is a text of at most 200 bytes:");
        sound("held" + " ".repeat(196), 1);
        sound(" ".repeat(196) + "held", 1);
        faulty("held" + " ".repeat(197), 1, 200);
        faulty(" ".repeat(197) + "held", 1, 200);
        faulty(" ".repeat(200), 1, 200);
        faulty("", 1, 0);
    }

    private void grammar() {
        e.of(42, "COND: ALL { 'or' ALL }. ALL: ONE { 'and' ONE }.");
        sound("held or held and held or held", 4);
        faulty("held or", 1, 7);
        faulty("or held", 1, 0);
        faulty("held and", 1, 8);
        faulty("held and or held", 1, 9);
        faulty("held held", 1, 5);
        faulty("held;", 1, 4);
        ParishYears x = Check.valleyOf(FIVE);
        said(x, "number = 0 or number = 2", 5);
        said(x, "number > 0 and number < 3", 6);
        said(x, "number = 0 or number = 1 and number = 2", 1);
        said(x, "number = 1 and number = 2 or number = 0", 1);
        said(x, "number < 3 and number > 1 or number < 1 and number < 9", 5);
        said(x, "number = 0 or number = 1 or number = 2 or number = 3 or number = 4", 31);
        said(x, "number < 4 and number < 3 and number < 2 and number > 0", 2);
    }

    private void nots() {
        e.of(42, "ONE: 'not' ONE | ( COND )");
        faulty("not", 1, 3);
        faulty("not or held", 1, 4);
        faulty("()", 1, 1);
        faulty("(held", 1, 5);
        faulty("held)", 1, 4);
        faulty("(held;)", 1, 5);
        faulty("oak", 1, 0);
        faulty("1", 1, 0);
        faulty("day = 1", 1, 0);
        ParishYears x = Check.valleyOf(FIVE);
        said(x, "not number = 0", 30);
        said(x, "not not number = 0", 1);
        said(x, "not number = 0 and number = 1", 2);
        said(x, "not number = 0 or number = 0", 31);
        said(x, "not (number = 0 or number = 1)", 28);
        said(x, "not (number = 0) or number = 0", 31);
        said(x, "(number = 0 or number = 1) and number = 1", 2);
        said(x, "number = 1 and (number = 0 or number = 1)", 2);
        said(x, "((number = 4))", 16);
    }

    private void ofToday() {
        e.of(43, "| 'between' (today is of the days put in)");
        ParishYears x = Check.valleyOf(VALLEY);
        x.days(5);
        said(x, "between", 0);
        x.days(1);
        said(x, "between", 1);
        x.days(1);
        said(x, "between", 1);
        x.days(1);
        said(x, "between", 0);
        e.of(43, "| 'held'");
        said(x, "held", 0);
        x.hold(1);
        said(x, "held", 2);
        x.hold(0);
        said(x, "held", 3);
        x.days(1);
        said(x, "held", 0);
        e.of(43, "| 'keeps' FEAST (it falls today, and is its own)");
        ParishYears y = Late.valleyOn(VALLEY, 4);
        said(y, "keeps wake", 0);
        y.days(1);
        // ash has the same MONTH and DATE, and no FEAST of its own
        y.skip(2, 6);
        said(y, "with oak", 5);
        said(y, "keeps wake", 1);
        said(y, "keeps yule", 2);
        y.hold(0);
        said(y, "keeps wake", 1);
        y.days(1);
        said(y, "keeps wake", 1);
        y.days(1);
        said(y, "keeps wake", 0);
        faulty("keeps", 1, 5);
        faulty("keeps oak", 3, 6);
        faulty("keeps nobody", 3, 6);
        faulty("keeps held", 1, 6);
    }

    private void withOthers() {
        e.of(43, "| 'with' PARISH (of one MONTH and DATE today, itself, too)");
        ParishYears x = Check.valleyOf(VALLEY);
        // oak and ash have 0 0, of YEARS 0 and 1; elm has 0 1
        said(x, "with oak", 5);
        said(x, "with elm", 2);
        said(x, "with ash", 5);
        x.days(6);
        // oak's day put in is MONTH 2, DATE 0; elm SKIPS to its own
        x.skip(1, 3);
        said(x, "with oak", 3);
        said(x, "with ash", 4);
        faulty("with", 1, 4);
        faulty("with wake", 3, 5);
        faulty("with nobody", 3, 5);
        faulty("with with", 1, 5);
    }

    private void figures() {
        e.of(43, "| ( 'year' | 'month' | 'date' | 'week' | 'number' ) SIGN NUMBER (what today is called; the weekday; its "
            + "number).");
        ParishYears x = Late.valleyOn("parish oak 2 3 3 0;leap oak 2 2;parish elm 3 2 2 1;parish ash 2 3 5 6;", 7);
        // oak: COUNT 7: 0 2 1, weekday 1. elm: COUNT 8: 1 1 0, weekday 0. ash: COUNT 13: 2 0 1, weekday 3.
        said(x, "year = 0", 1);
        said(x, "year = 1", 2);
        said(x, "year = 2", 4);
        said(x, "month = 2", 1);
        said(x, "month = 1", 2);
        said(x, "month = 0", 4);
        said(x, "date = 1", 5);
        said(x, "date = 0", 2);
        said(x, "week = 1", 1);
        said(x, "week = 0", 2);
        said(x, "week = 3", 4);
        said(x, "number = 0", 1);
        said(x, "number = 1", 2);
        said(x, "number = 2", 4);
        said(x, "number = 3", 0);
        said(x, "year < 999", 7);
        said(x, "year = 000", 1);
        ParishYears late = Late.valleyOn("parish p 2 2 2 0;", 4000);
        said(late, "year > 999", 1);
        faulty("year", 1, 4);
        faulty("year <", 1, 6);
        faulty("year < 1000", 1, 7);
        faulty("year < year", 1, 7);
        faulty("week 1", 1, 5);
    }

    private void signs() {
        e.of(43, "SIGN: < = >.");
        ParishYears x = Check.valleyOf(FIVE);
        said(x, "number < 0", 0);
        said(x, "number < 1", 1);
        said(x, "number < 2", 3);
        said(x, "number = 1", 2);
        said(x, "number > 1", 28);
        said(x, "number > 3", 16);
        said(x, "number > 4", 0);
        faulty("number ( 1", 1, 7);
        faulty("number ; 1", 1, 7);
        faulty("number << 1", 1, 8);
        faulty("number <= 1", 1, 8);
        faulty("number ? 1", 1, 7);
    }

    private void many() {
        e.of(42, "20 ONES, 8 within one another.");
        sound("held" + " or held".repeat(19), 20);
        faulty("held" + " or held".repeat(20), 4, 160);
        sound("not ".repeat(7) + "held", 8);
        faulty("not ".repeat(8) + "held", 4, 32);
        sound("(((((((held)))))))", 8);
        faulty("((((((((held))))))))", 4, 8);
        sound("(((((((held or held and held)))))))or(((((((held)))))))", 18);
        sound("not (not (not (not held or held) or held) or held) and held", 12);
        sound("(((((((held)))))))and(((((((held)))))))and not not held and held", 20);
        faulty("(((((((held)))))))and(((((((held)))))))and not not held and held and held", 4, 69);
        e.of(42, "It is said of PARISHES.");
        ParishYears x = Check.valleyOf("parish a 2 2 2 0;parish b 2 2 2 0;");
        x.hold(1);
        said(x, "held", 2);
        said(x, "not held", 1);
        said(x, "held or not held", 3);
        said(x, "held and not held", 0);
        ParishYears none = new ParishYears();
        e.due("sentence() without PARISHES", Check.sentence(none, "held"), 1);
        e.due("said(-1) of none", none.said(-1), 0);
        e.due("said(0) of none", none.said(0), -1);
    }

    private void ones() {
        e.of(42, "The tape is the SENTENCE now: how many ONES (each not, bracket and other one);");
        sound("held", 1);
        sound("not held", 2);
        sound("(held)", 2);
        sound("not (held)", 3);
        sound("not(not(held))", 5);
        sound("year<1 and(month=0)or date>999", 4);
        ParishYears x = Check.valleyOf(FIVE);
        Check.sentence(x, "number = 3");
        e.due("said(0)", x.said(0), 3);
        Check.sentence(x, "not number < 4");
        e.due("said(0) of the one now", x.said(0), 4);
        e.due("said(-1) of the one now", x.said(-1), 1);
        said(x, "held or ".repeat(19) + "number=4", 16);
        said(x, "not held and number<9 and ".repeat(6) + "number<4 and number>2", 8);
        said(x, "number<1 and(number<2 or(number<3 and(number<4 or(number<5 and(number<6 or(number<7))))))", 1);
        for (int p = 0; p < 5; p++) {
            said(x, "held or ".repeat(19) + "number=" + p, 1 << p);
        }
        e.of(42, "-1 less the place of a FAULT:");
        faulty("?", 1, 0);
        faulty("held and held)", 1, 13);
        faulty(" ".repeat(199) + "?", 1, 199);
    }

    private void itStays() {
        e.of(42, "it stays.");
        ParishYears x = Check.valleyOf(VALLEY);
        Check.sentence(x, "?");
        e.due("said(-1) when there was none", x.said(-1), -1);
        Check.sentence(x, "number = 2");
        e.due("a FAULT at the end", Check.sentence(x, "held or not held or"), -20);
        e.due("said(-1)", x.said(-1), 1);
        e.due("said(0)", x.said(0), 2);
        Check.sentence(x, "");
        e.due("said(0) behind an empty tape", x.said(0), 2);
        x.days(1);
        x.undo();
        e.due("said(0) behind undo()", x.said(0), 2);
    }

    private void said() {
        e.of(43, "PARISHES of whom it may be said: how many (k NONE), or the k-th.");
        ParishYears x = Check.valleyOf(FIVE);
        Check.sentence(x, "not number = 1 and not number = 3");
        e.due("said(-1)", x.said(-1), 3);
        e.due("said(0)", x.said(0), 0);
        e.due("said(1)", x.said(1), 2);
        e.due("said(2)", x.said(2), 4);
        Check.sentence(x, "held");
        e.due("said(-1), of none", x.said(-1), 0);
        x.hold(4);
        e.due("said(-1), of the day that is", x.said(-1), 1);
        e.due("said(0)", x.said(0), 4);
        Check.sentence(x, "number < 9");
        e.due("said(-1), of all", x.said(-1), 5);
        e.due("said(4)", x.said(4), 4);
    }

    private void saidNone() {
        e.of(43, "NONE: there is no SENTENCE, none such.");
        ParishYears x = Check.valleyOf(FIVE);
        e.due("said(-1) without one", x.said(-1), -1);
        e.due("said(0) without one", x.said(0), -1);
        Check.sentence(x, "number < 2");
        e.due("said(2)", x.said(2), -1);
        e.due("said(-2)", x.said(-2), -1);
        e.due("said(most)", x.said(Integer.MAX_VALUE), -1);
        e.due("said(least)", x.said(Integer.MIN_VALUE), -1);
        Check.sentence(x, "held");
        e.due("said(0) of none", x.said(0), -1);
        Check.valley(x, FIVE);
        e.due("said(-1) in a new VALLEY", x.said(-1), -1);
    }
}
