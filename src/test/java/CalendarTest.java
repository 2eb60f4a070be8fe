/** Promises 6 to 10: what a PARISH and a FEAST are, and what days are called. */
public final class CalendarTest {
    private static final Check check = new Check();
    /** oak's YEARS 0, 2, 4 .. have 8 days, the other ones 6; elm's have 6 days each. */
    private static final String VALLEY = "parish oak 2 3 3 0;leap oak 2 2;parish elm 3 2 2 1;"
        + "feast wake oak 1 2;feast yule elm 0 0;sun 13 2;";

    public static void main(String[] args) {
        parish();
        at();
        countOf();
        bothWays();
        feast();
        now();
        check.end();
    }

    private static void parish() {
        ParishYears x = Check.valleyOf(VALLEY);
        int[] oak = {2, 3, 3, 2, 2, 0, 0, 0, 0};
        int[] elm = {3, 2, 2, 0, 1, 1, 0, 0, 0};
        for (int what = 0; what < 9; what++) {
            check.due("6 parish(0, " + what + ")", x.parish(0, what), oak[what]);
            check.due("6 parish(1, " + what + ")", x.parish(1, what), elm[what]);
        }
        x.hold(1);
        x.skip(1, 4);
        check.due("6 COUNT", x.parish(1, 5), 5);
        check.due("6 HELD", x.parish(1, 6), 1);
        check.due("6 days HELD", x.parish(1, 7), 1);
        check.due("6 days SKIPPED", x.parish(1, 8), 4);
        x.days(1);
        check.due("6 COUNT", x.parish(1, 5), 5);
        check.due("6 HELD no more", x.parish(1, 6), 0);
        check.due("6 days HELD so far", x.parish(1, 7), 1);
        check.throwsNoSuchElement("6 parish(2, 0)", () -> x.parish(2, 0));
        check.throwsNoSuchElement("6 parish(-1, 0)", () -> x.parish(-1, 0));
        check.throwsNoSuchElement("6 parish(0, 9)", () -> x.parish(0, 9));
        check.throwsNoSuchElement("6 parish(0, -1)", () -> x.parish(0, -1));
    }

    private static void called(ParishYears x, int p, int k, int year, int month, int date, int weekday) {
        check.due("7 at(" + p + ", " + k + ", 0)", x.at(p, k, 0), year);
        check.due("7 at(" + p + ", " + k + ", 1)", x.at(p, k, 1), month);
        check.due("7 at(" + p + ", " + k + ", 2)", x.at(p, k, 2), date);
        check.due("7 at(" + p + ", " + k + ", 3)", x.at(p, k, 3), weekday);
    }

    private static void at() {
        ParishYears x = Check.valleyOf(VALLEY);
        called(x, 0, 0, 0, 0, 0, 0);
        called(x, 0, 5, 0, 1, 2, 2);
        called(x, 0, 6, 0, 2, 0, 0);
        called(x, 0, 7, 0, 2, 1, 1);
        called(x, 0, 8, 1, 0, 0, 2);
        called(x, 0, 13, 1, 1, 2, 1);
        called(x, 0, 14, 2, 0, 0, 2);
        called(x, 0, 21, 2, 2, 1, 0);
        called(x, 0, 99999, 14285, 1, 0, 0);
        called(x, 1, 0, 0, 0, 1, 1);
        called(x, 1, -1, 0, 0, 0, 0);
        called(x, 1, -2, -1, -1, -1, -1);
        x.days(999);
        x.days(999);
        called(x, 0, -1998, 0, 0, 0, 0);
        called(x, 0, -1999, -1, -1, -1, -1);
        x.hold(0);
        called(x, 0, -1997, 0, 0, 1, 1);
        check.due("7 at(0, 100000, 0)", x.at(0, 100000, 0), -1);
        check.due("7 at(0, -10000, 0)", x.at(0, -10000, 0), -1);
        check.due("7 at(0, 0, 4)", x.at(0, 0, 4), -1);
        check.due("7 at(0, 0, -1)", x.at(0, 0, -1), -1);
        check.due("7 at(2, 0, 0)", x.at(2, 0, 0), -1);
        check.due("7 at(-1, 0, 0)", x.at(-1, 0, 0), -1);
        check.due("7 at(0, least, 0)", x.at(0, Integer.MIN_VALUE, 0), -1);
        ParishYears y = Check.valleyOf("parish p 2 2 2 0;");
        for (int i = 0; i < 10; i++) {
            y.days(999);
        }
        y.days(99);
        check.due("7 at(0, -9999, 0)", y.at(0, -9999, 2), 1);
        check.due("7 at(0, -10000, 0)", y.at(0, -10000, 2), -1);
    }

    private static void countOf() {
        ParishYears x = Check.valleyOf(VALLEY);
        check.due("8 oak 0 2 1", x.countOf(0, 0, 2, 1), 7);
        check.due("8 oak 0 2 2", x.countOf(0, 0, 2, 2), -1);
        check.due("8 oak 1 0 0", x.countOf(0, 1, 0, 0), 8);
        check.due("8 oak 1 2 0", x.countOf(0, 1, 2, 0), -1);
        check.due("8 oak 2 2 0", x.countOf(0, 2, 2, 0), 20);
        check.due("8 oak 999 1 2", x.countOf(0, 999, 1, 2), 499 * 14 + 13);
        check.due("8 oak 1000 0 0", x.countOf(0, 1000, 0, 0), -1);
        check.due("8 oak -1 0 0", x.countOf(0, -1, 0, 0), -1);
        check.due("8 oak 0 -1 0", x.countOf(0, 0, -1, 0), -1);
        check.due("8 oak 0 3 0", x.countOf(0, 0, 3, 0), -1);
        check.due("8 oak 0 0 3", x.countOf(0, 0, 0, 3), -1);
        check.due("8 oak 0 0 -1", x.countOf(0, 0, 0, -1), -1);
        check.due("8 elm 0 3 0", x.countOf(1, 0, 3, 0), -1);
        check.due("8 elm 1 2 1", x.countOf(1, 1, 2, 1), 11);
        check.due("8 no PARISH", x.countOf(2, 0, 0, 0), -1);
        check.due("8 no PARISH", x.countOf(-1, 0, 0, 0), -1);
    }

    private static void bothWays() {
        for (int p = 0; p < 2; p++) {
            for (int from = 0; from < 3000; from += 100) {
                bothWays(p, from);
            }
        }
    }

    /** A hundred days alone, as an object is used for 512 calls at most. */
    private static void bothWays(int p, int from) {
        ParishYears x = Check.valleyOf("parish p 5 7 4 0;leap p 9 3;parish q 13 30 9 0;leap q 1 1;");
        for (int k = from; k < from + 100; k++) {
            check.due("8 the COUNT of " + k, x.countOf(p, x.at(p, k, 0), x.at(p, k, 1), x.at(p, k, 2)), k);
        }
    }

    private static void feast() {
        ParishYears x = Check.valleyOf(VALLEY);
        check.due("9 feast(0, 0)", x.feast(0, 0), 0);
        check.due("9 feast(0, 1)", x.feast(0, 1), 1);
        check.due("9 feast(0, 2)", x.feast(0, 2), 2);
        check.due("9 feast(0, 3)", x.feast(0, 3), 0);
        check.due("9 feast(1, 0)", x.feast(1, 0), 1);
        x.days(5);
        check.due("9 feast(0, 3) on its day", x.feast(0, 3), 1);
        x.hold(0);
        check.due("9 feast(0, 3) on its HELD day", x.feast(0, 3), 1);
        check.due("9 feast(0, 4)", x.feast(0, 4), -1);
        check.due("9 feast(0, -1)", x.feast(0, -1), -1);
        check.due("9 feast(2, 0)", x.feast(2, 0), -1);
        check.due("9 feast(-1, 0)", x.feast(-1, 0), -1);
    }

    private static void now() {
        ParishYears x = Check.valleyOf(VALLEY);
        check.due("10 weekday 0", x.now(3), 1);
        x.days(5);
        check.due("10 the DAY", x.now(0), 5);
        check.due("10 HELD", x.now(1), 0);
        check.due("10 FEASTS", x.now(2), 3);
        check.due("10 weekday 0", x.now(3), 2);
        check.due("10 put in", x.now(4), 0);
        x.days(1);
        check.due("10 FEASTS", x.now(2), 0);
        check.due("10 put in", x.now(4), 1);
        x.hold(0);
        x.hold(1);
        x.skip(0, 2);
        x.skip(1, 9);
        check.due("10 HELD", x.now(1), 3);
        check.due("10 put in", x.now(4), 0);
        check.due("10 days HELD", x.now(5), 2);
        check.due("10 days SKIPPED", x.now(6), 11);
        check.due("10 now(7)", x.now(7), -1);
        check.due("10 now(-1)", x.now(-1), -1);
    }
}
