/** Promises 42 and 43: SENTENCES, their FAULTS, and of whom they may be said. */
public final class SentenceTest {
    private static final Check check = new Check();
    private static final String VALLEY = "parish oak 2 3 3 0;leap oak 2 2;parish elm 3 2 2 1;parish ash 2 3 3 6;"
        + "feast wake oak 1 2;feast yule elm 0 0;";

    public static void main(String[] args) {
        faults();
        ones();
        whom();
        joined();
        itStays();
        check.end();
    }

    private static void faulty(String text, int kind, int place) {
        ParishYears x = Check.valleyOf(VALLEY);
        check.due("42 sentence: " + text, Check.sentence(x, text), -1 - place);
        check.due("5 fault: " + text, x.fault(), kind);
        check.due("43 there is none: " + text, x.said(-1), -1);
        check.due("42 the tape is empty then: " + text, x.count(4), 0);
    }

    private static void faults() {
        faulty("", 1, 0);
        faulty("  ", 1, 2);
        faulty("oak", 1, 0);
        faulty("held held", 1, 5);
        faulty("held;", 1, 4);
        faulty("held or", 1, 7);
        faulty("held or and held", 1, 8);
        faulty("not", 1, 3);
        faulty("not or", 1, 4);
        faulty("()", 1, 1);
        faulty("(held", 1, 5);
        faulty("(held or held", 1, 13);
        faulty("held)", 1, 4);
        faulty("(held))", 1, 6);
        faulty("keeps", 1, 5);
        faulty("keeps 1", 1, 6);
        faulty("keeps held", 1, 6);
        faulty("keeps oak", 3, 6);
        faulty("keeps nobody", 3, 6);
        faulty("with", 1, 4);
        faulty("with wake", 3, 5);
        faulty("with nobody", 3, 5);
        faulty("with with", 1, 5);
        faulty("year", 1, 4);
        faulty("year 1", 1, 5);
        faulty("year ( 1", 1, 5);
        faulty("year <", 1, 6);
        faulty("year < < 1", 1, 7);
        faulty("year < oak", 1, 7);
        faulty("year < 1000", 1, 7);
        faulty("day = 1", 1, 0);
        faulty("held or ?", 1, 8);
        String twenty = "held" + Check.repeated(" or held", 19);
        faulty(twenty + " or held", 4, 160);
        faulty(twenty + " and (", 4, 161);
        faulty(twenty + " or oak", 1, 160);
        faulty(twenty + " or", 1, 159);
        faulty("not not not not not not not not held", 4, 32);
        faulty("((((((((held))))))))", 4, 8);
        faulty("((((((((?", 1, 8);
        faulty("(((((((not held)))))))", 4, 11);
        String blanks = Check.repeated(" ", 200);
        faulty("held" + blanks, 1, 200);
        faulty(blanks, 1, 200);
        faulty(blanks.substring(5) + "with nobody", 1, 200);
        faulty(blanks.substring(6) + "with nobody", 3, 199);
    }

    private static void sound(String text, int ones) {
        ParishYears x = Check.valleyOf(VALLEY);
        check.due("42 sentence: " + text, Check.sentence(x, text), ones);
        check.due("5 fault: " + text, x.fault(), 0);
        check.due("43 it may be said: " + text, x.said(-1) >= 0, true);
    }

    private static void ones() {
        sound("held", 1);
        sound("not held", 2);
        sound("(held)", 2);
        sound("not(not(held))", 5);
        sound("year<1 and(month=0)or date>999", 4);
        sound("held" + Check.repeated(" and held", 19), 20);
        sound("not not not not not not not held", 8);
        sound("(((((((held)))))))", 8);
        sound("(((((((held or held and held)))))))or(((((((held)))))))", 18);
        sound("held" + Check.repeated(" ", 196), 1);
    }

    /** The PARISHES of whom it may be said, as bits: by their number and one by one. */
    private static int bits(ParishYears x) {
        int bits = 0;
        int many = x.said(-1);
        for (int k = 0; k < many; k++) {
            bits |= 1 << x.said(k);
        }
        check.due("43 none behind the last", x.said(many), -1);
        check.due("43 none at -2", x.said(-2), -1);
        return Integer.bitCount(bits) == many ? bits : -1;
    }

    private static void said(ParishYears x, String text, int bits) {
        check.due("42 sentence: " + text, Check.sentence(x, text) > 0, true);
        check.due("43 said: " + text, bits(x), bits);
    }

    private static void whom() {
        ParishYears x = Check.valleyOf(VALLEY);
        check.due("43 no SENTENCE", x.said(-1), -1);
        check.due("43 no SENTENCE", x.said(0), -1);
        x.days(6);
        x.hold(1);
        // oak: COUNT 6: YEAR 0, between 0, weekday 0. elm: COUNT 7: YEAR 1, 0 1, weekday 1.
        // ash: COUNT 12: YEAR 2, 0 0, weekday 0.
        said(x, "between", 1);
        said(x, "held", 2);
        said(x, "keeps wake", 0);
        said(x, "keeps yule", 0);
        said(x, "with oak", 1);
        said(x, "with elm", 2);
        said(x, "year = 0", 1);
        said(x, "year > 0", 6);
        said(x, "year < 2", 3);
        said(x, "month = 2", 1);
        said(x, "month < 1", 6);
        said(x, "date = 0", 5);
        said(x, "date > 0", 2);
        said(x, "week = 0", 5);
        said(x, "week > 0", 2);
        said(x, "number = 1", 2);
        said(x, "number < 2", 3);
        said(x, "number > 0", 6);
        said(x, "number = 3", 0);
        x.undo();
        x.undo();
        x.days(5);
        said(x, "keeps wake", 1);
        said(x, "keeps yule", 2);
        x.hold(0);
        said(x, "keeps wake and held", 1);
        x.skip(2, 6);
        // ash: COUNT 17, of one date with oak at 5
        said(x, "with ash", 5);
        said(x, "with oak", 5);
        said(x, "keeps wake", 1);
        x.days(1);
        said(x, "held", 0);
        check.due("43 of the day that is", x.said(-1), 0);
        x.hold(2);
        check.due("43 of the day that is", x.said(0), 2);
        ParishYears none = new ParishYears();
        check.due("42 without PARISHES", Check.sentence(none, "held"), 1);
        check.due("43 of none", none.said(-1), 0);
        check.due("43 of none", none.said(0), -1);
    }

    private static void joined() {
        ParishYears x = Check.valleyOf("parish a 2 2 2 0;parish b 2 2 2 0;parish c 2 2 2 0;parish d 2 2 2 0;"
            + "parish e 2 2 2 0;");
        said(x, "number = 0 or number = 2", 5);
        said(x, "number > 0 and number < 3", 6);
        said(x, "number = 0 or number = 1 and number = 2", 1);
        said(x, "number = 1 and number = 2 or number = 0", 1);
        said(x, "(number = 0 or number = 1) and number = 1", 2);
        said(x, "number = 1 and (number = 0 or number = 1)", 2);
        said(x, "not number = 0 and number < 3", 6);
        said(x, "not (number = 0 and number < 3)", 30);
        said(x, "not not number = 3", 8);
        said(x, "not number = 1 or number = 1", 31);
        said(x, "number = 0 or (number = 1 or (number = 2 and not (number = 3 or number = 2))) or number = 4", 19);
        said(x, "number > 0 and not (number = 2 or number = 3 and not number = 4)", 18);
        // every table of two: 1 0, 1 1, 0 1 and 0 0 for numbers 0, 1, 2, 3
        said(x, "number < 2 and (number = 1 or number = 2)", 2);
        said(x, "number < 2 or (number = 1 or number = 2)", 7);
        said(x, "(number = 1 or number = 2) and number < 2", 2);
        said(x, "(number = 1 or number = 2) or number < 2", 7);
    }

    private static void itStays() {
        ParishYears x = Check.valleyOf(VALLEY);
        check.due("42 sentence", Check.sentence(x, "number = 2"), 1);
        check.due("42 with a FAULT", Check.sentence(x, "held or not held or ?"), -1 - 20);
        check.due("43 it stays", x.said(0), 2);
        check.due("42 the same words", Check.sentence(x, "number = 1"), 1);
        check.due("43 it is the new one", x.said(0), 1);
        x.days(3);
        check.due("14 undo leaves it", x.undo(), 0);
        check.due("43 it stays", x.said(0), 1);
    }
}
