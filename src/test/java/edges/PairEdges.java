/**
 * What is reckoned of two PARISHES and of all: promises 22 to 28.
 *
 * Cases of these stand in AheadTest too, by number alone; each sentence has its own here.
 */
final class PairEdges {
    /** p's days put in come at its COUNTS 60 to 68 and 609 to 617; q has MONTH 2, DATE 0 and never comes to p's DATE. */
    private static final String BY_400 = "parish p 2 30 9 209;leap p 9 9;parish q 13 19 9 38;";
    private static final String BY_401 = "parish p 2 30 9 208;leap p 9 9;parish q 13 19 9 38;";
    /** p has MONTH 0, DATE 2, which q has not; q has MONTH 2, which p has not. */
    private static final String NEVER = "parish p 2 3 3 2;parish q 3 2 2 5;";

    private final Edges e;

    PairEdges(Edges e) {
        this.e = e;
    }

    void run() {
        agree();
        agreeLike();
        agreeing();
        match();
        matchOn();
        reform();
        reformTo();
        play();
        playNone();
    }

    private void agrees(String text, int p, int q, int days, int which) {
        ParishYears x = Check.valleyOf(text);
        e.due("agree(" + p + ", " + q + ") of " + text, x.agree(p, q), days);
        e.due("agreeing() of " + text, x.agreeing(), which);
    }

    private void agree() {
        e.of(22, "AGREE of two PARISHES: the fewest days (0 to 400) that one of them must SKIP so that they have one MONTH "
            + "and DATE today");
        agrees("parish p 2 3 3 0;parish q 2 3 3 0;", 0, 1, 0, 0);
        agrees("parish p 2 3 3 0;parish q 2 3 3 2;", 0, 1, 2, 0);
        agrees("parish p 2 3 3 0;parish q 2 3 3 2;", 1, 0, 2, 0);
        agrees("parish p 2 3 3 0;parish q 2 3 3 4;", 0, 1, 2, 1);
        agrees(BY_400, 0, 1, 400, 0);
        agrees(BY_400, 1, 0, 400, 0);
        agrees(BY_401, 0, 1, -1, -1);
        agrees(BY_401, 1, 0, -1, -1);
        // q's day put in is its MONTH 2, DATE 0; p comes to its own tomorrow
        agrees("parish p 3 2 2 3;parish q 2 2 2 4;leap q 1 9;", 0, 1, 1, 0);
        ParishYears held = Check.valleyOf("parish p 2 3 3 0;parish q 2 3 3 2;");
        held.hold(0);
        e.due("agree(0, 1), HELD", held.agree(0, 1), 2);
        e.due("COUNT behind it", held.parish(0, 5), 0);
        e.of(22, "(YEARS no matter; COUNTS above 9999 no matter);");
        agrees("parish p 2 3 3 0;parish q 2 3 3 6;", 0, 1, 0, 0);
        agrees("parish p 2 3 3 1;parish q 2 3 3 999;", 0, 1, 2, 0);
        ParishYears late = Late.valleyOn("parish p 2 3 3 0;parish q 2 3 3 2;", 9999);
        e.due("agree(0, 1) of 9999", late.agree(0, 1), 2);
        e.due("agreeing()", late.agreeing(), 0);
        e.due("skip(0, 2), which can't be", late.skip(0, 2), 1);
        ParishYears above = Late.valleyOn("parish p 2 3 3 999;parish q 2 3 3 995;", 10000);
        // 10999 is DATE 1 of MONTH 0, 10995 DATE 0 of MONTH 1
        e.due("agree(0, 1) of 10999", above.agree(0, 1), 2);
        e.due("agreeing()", above.agreeing(), 0);
        e.of(22, "AGREE of two PARISHES: how many days;");
        agrees("parish p 13 30 9 1;parish q 2 2 2 0;", 0, 1, 1, 1);
        agrees("parish p 13 30 9 70;leap p 9 1;parish q 13 30 9 69;leap q 9 1;", 0, 1, 1, 1);
        // p must go round its YEAR of 399 days; q, without DATE 2, can't come to it
        agrees("parish p 13 30 9 2;leap p 9 1;parish q 2 2 2 1;", 0, 1, 398, 0);
        e.of(22, "NONE: by none, no such ones.");
        ParishYears never = Check.valleyOf(NEVER);
        e.due("by none", never.agree(0, 1), -1);
        e.due("by none", never.agree(1, 0), -1);
        e.due("agree(0, 2)", never.agree(0, 2), -1);
        e.due("agree(2, 0)", never.agree(2, 0), -1);
        e.due("agree(-1, 0)", never.agree(-1, 0), -1);
        e.due("agree(0, -1)", never.agree(0, -1), -1);
        e.due("agree(most, least)", never.agree(Integer.MAX_VALUE, Integer.MIN_VALUE), -1);
        e.due("agree(0, 0) of none", new ParishYears().agree(0, 0), -1);
    }

    private void agreeLike() {
        e.of(22, "of like ones the first one.");
        agrees("parish p 2 3 3 0;parish q 2 3 3 3;", 0, 1, 3, 0);
        agrees("parish p 2 3 3 0;parish q 2 3 3 3;", 1, 0, 3, 1);
    }

    private void agreeing() {
        e.of(23, "Which one must SKIP them (the first, if 0), by the latest agree() that was not NONE;");
        ParishYears x = Check.valleyOf("parish p 2 3 3 0;parish q 2 3 3 1;parish r 2 3 3 1;parish s 3 2 2 4;");
        x.agree(1, 0);
        e.due("the second named", x.agreeing(), 0);
        x.agree(1, 2);
        e.due("the first, if 0", x.agreeing(), 1);
        x.agree(2, 1);
        e.due("the first, if 0", x.agreeing(), 2);
        x.agree(1, 1);
        e.due("of one with itself", x.agreeing(), 1);
        x.agree(0, 4);
        e.due("behind a NONE: no PARISH", x.agreeing(), 1);
        x.skip(0, 2);
        e.due("agree(0, 3): by none", x.agree(0, 3), -1);
        e.due("behind a NONE: by none", x.agreeing(), 1);
        Check.valley(x, "");
        e.due("behind a new VALLEY", x.agreeing(), 1);
        e.of(23, "NONE ahead of any.");
        ParishYears y = Check.valleyOf(NEVER);
        e.due("agreeing()", y.agreeing(), -1);
        y.agree(0, 1);
        e.due("agreeing() behind a NONE", y.agreeing(), -1);
    }

    private void match() {
        e.of(24, "MATCH of two PARISHES for n: on how many of today and the n days behind it they have one MONTH and DATE; "
            + "the first of these.");
        ParishYears x = Check.valleyOf("parish p 2 2 2 0;parish q 2 2 2 0;leap q 1 1;");
        // YEARS of 4 and 5 days: 0 to 3 alike, then 20 to 23
        e.due("match(0, 1, 0)", x.match(0, 1, 0), 1);
        e.due("match(0, 1, 3)", x.match(0, 1, 3), 4);
        e.due("match(0, 1, 19)", x.match(0, 1, 19), 4);
        e.due("match(0, 1, 20)", x.match(0, 1, 20), 5);
        e.due("match(1, 0, 23)", x.match(1, 0, 23), 8);
        e.due("matchOn()", x.matchOn(), 0);
        x.days(4);
        e.due("match(0, 1, 15)", x.match(0, 1, 15), 0);
        e.due("match(0, 1, 16)", x.match(0, 1, 16), 1);
        e.due("matchOn()", x.matchOn(), 16);
        ParishYears put = Check.valleyOf("parish p 2 2 2 4;leap p 1 1;parish q 3 2 2 4;");
        // p's day put in is MONTH 2, DATE 0, as q's is
        e.due("match(0, 1, 0) on a day put in", put.match(0, 1, 0), 1);
        e.due("match(0, 1, 1)", put.match(0, 1, 1), 1);
        ParishYears held = Check.valleyOf("parish p 2 3 3 0;parish q 2 3 3 1;");
        held.hold(1);
        e.due("match(0, 1, 0), HELD", held.match(0, 1, 0), 0);
        e.due("match(0, 1, 1), HELD", held.match(0, 1, 1), 1);
        e.due("matchOn()", held.matchOn(), 1);
        held.hold(0);
        e.due("match(0, 1, 999), both HELD", held.match(0, 1, 999), 0);
        e.of(24, "MATCH of two PARISHES for n (0 to 999): on how many days;");
        e.due("match(0, 0, 0)", held.match(0, 0, 0), 1);
        e.due("match(0, 0, 999)", held.match(0, 0, 999), 1000);
        ParishYears last = Check.valleyOf("parish p 13 30 9 170;parish q 13 30 9 0;leap q 9 9;");
        last.days(1);
        // q comes a YEAR's 9 days later, p's dates stay ahead: never
        e.due("match(0, 1, 999)", last.match(0, 1, 999), 0);
        e.of(24, "NONE: no such ones.");
        e.due("match(0, 1, 1000)", held.match(0, 1, 1000), -1);
        e.due("match(0, 1, -1)", held.match(0, 1, -1), -1);
        e.due("match(0, 1, most)", held.match(0, 1, Integer.MAX_VALUE), -1);
        e.due("match(0, 1, least)", held.match(0, 1, Integer.MIN_VALUE), -1);
        e.due("match(0, 2, 0)", held.match(0, 2, 0), -1);
        e.due("match(2, 0, 0)", held.match(2, 0, 0), -1);
        e.due("match(-1, 0, 0)", held.match(-1, 0, 0), -1);
        e.due("match(0, -1, 0)", held.match(0, -1, 0), -1);
        e.due("match(0, 0, 0) of none", new ParishYears().match(0, 0, 0), -1);
    }

    private void matchOn() {
        e.of(25, "In how many days the first of them is, by the latest match() above 0;");
        // YEARS of 4 and 5 days: alike on DAYS 0 to 3, 20 to 23, .. , 1000 to 1003
        ParishYears x = Late.valleyOn("parish p 2 2 2 0;parish q 2 2 2 0;leap q 1 1;parish r 2 3 3 2;parish s 3 2 2 5;",
            984);
        e.due("match(0, 1, 999)", x.match(0, 1, 999), 200);
        e.due("matchOn()", x.matchOn(), 16);
        e.due("match(0, 1, 15)", x.match(0, 1, 15), 0);
        e.due("matchOn() behind 0", x.matchOn(), 16);
        e.due("match(0, 1, 1000)", x.match(0, 1, 1000), -1);
        e.due("matchOn() behind a NONE", x.matchOn(), 16);
        x.days(16);
        e.due("matchOn() behind days", x.matchOn(), 16);
        e.due("match(0, 1, 0)", x.match(0, 1, 0), 1);
        e.due("matchOn()", x.matchOn(), 0);
        // p comes to q's six dates in MONTHS 1 and 2 while q has others, and then to DATE 0 of MONTH 0 in 384 days
        ParishYears far = Check.valleyOf("parish p 13 30 9 6;parish q 3 2 2 0;");
        e.due("match(0, 1, 383)", far.match(0, 1, 383), 0);
        e.due("match(0, 1, 384)", far.match(0, 1, 384), 1);
        e.due("matchOn(): on its last day", far.matchOn(), 384);
        e.of(25, "NONE ahead of any.");
        ParishYears y = Check.valleyOf("parish p 2 3 3 0;parish q 2 3 3 1;");
        e.due("matchOn()", y.matchOn(), -1);
        y.match(0, 1, 999);
        e.due("matchOn() behind 0", y.matchOn(), -1);
        y.match(0, 2, 9);
        e.due("matchOn() behind a NONE", y.matchOn(), -1);
    }

    private void reforms(String text, int days, int to) {
        ParishYears x = Check.valleyOf(text);
        e.due("reform() of " + text, x.reform(), days);
        e.due("reformTo() of " + text, x.reformTo(), to);
    }

    private void reform() {
        e.of(26, "REFORM: the PARISH whose MONTH and DATE of today all others come to, if each SKIPS as few days (0 to 400) "
            + "as can be, by the fewest in all (of like ones the first).");
        reforms("parish a 2 3 2 0;parish b 2 3 2 1;parish c 2 3 2 5;", 3, 1);
        reforms("parish a 2 3 2 0;parish b 2 3 2 0;", 0, 0);
        reforms("parish a 2 3 2 0;parish b 2 3 2 3;", 3, 0);
        reforms("parish a 2 3 2 3;parish b 2 3 2 2;parish c 2 3 2 0;", 4, 0);
        // five in a circle of 390 days: 78, 156, 234 and 312 to each
        reforms("parish a 13 30 2 0;parish b 13 30 2 78;parish c 13 30 2 156;parish d 13 30 2 234;parish e 13 30 2 312;",
            780, 0);
        reforms(BY_400, 400, 1);
        reforms(BY_401, -1, -1);
        e.of(26, "REFORM: how many days in all;");
        reforms("parish a 2 2 2 0;", 0, 0);
        // a alone has DATE 2: nobody comes to it, and it comes to b's in 1 and to c's in 2 days
        reforms("parish a 2 3 2 2;parish b 2 2 2 2;parish c 2 2 2 3;", 3, 2);
        e.of(26, "NONE: by none, there are no PARISHES.");
        reforms(NEVER, -1, -1);
        reforms("", -1, -1);
        e.due("reform() of a new object", new ParishYears().reform(), -1);
        ParishYears x = Check.valleyOf("parish p 2 3 3 0;parish q 2 3 3 4;");
        x.hold(0);
        x.reform();
        e.due("nothing is SKIPPED", x.now(6), 0);
        e.due("HELD", x.now(1), 1);
    }

    private void reformTo() {
        e.of(27, "To which PARISH, by the latest reform() that was not NONE;");
        ParishYears x = Check.valleyOf("parish p 2 3 3 0;parish q 2 3 3 1;");
        x.reform();
        e.due("reformTo()", x.reformTo(), 1);
        x.skip(0, 3);
        e.due("reformTo() ahead of the next", x.reformTo(), 1);
        x.reform();
        e.due("reformTo() behind it", x.reformTo(), 0);
        x.undo();
        x.reform();
        Check.valley(x, NEVER);
        e.due("reform() by none", x.reform(), -1);
        e.due("reformTo() behind a NONE", x.reformTo(), 1);
        Check.valley(x, "");
        e.due("reform() of none", x.reform(), -1);
        e.due("reformTo() behind a NONE", x.reformTo(), 1);
        e.of(27, "NONE ahead of any.");
        ParishYears y = Check.valleyOf(NEVER);
        e.due("reformTo()", y.reformTo(), -1);
        y.reform();
        e.due("reformTo() behind a NONE", y.reformTo(), -1);
    }

    /** p must SKIP so many days to come to q's date. */
    private static ParishYears apart(int way) {
        return Check.valleyOf("parish p 13 30 9 0;parish q 13 30 9 " + way + ";");
    }

    private void play() {
        e.of(28, "PLAY of two PARISHES for k: two by turns let the first one SKIP 1 to k days each, never beyond the first "
            + "day on which it has MONTH and DATE of the other one's today (0 to 400 days ahead);");
        e.due("1 day, k 1", apart(1).play(0, 1, 1), 1);
        e.due("1 day, k 9: not beyond", apart(1).play(0, 1, 9), 1);
        e.due("389 days, k 9", apart(389).play(0, 1, 9), 9);
        e.due("1 day the other way, k 9", apart(389).play(1, 0, 9), 1);
        ParishYears round = Check.valleyOf("parish p 2 2 2 0;parish q 2 2 2 7;");
        // p is there in 3 days, and again in 7
        e.due("3 days, k 9", round.play(0, 1, 9), 3);
        e.due("3 days, k 2", round.play(0, 1, 2), -1);
        e.due("3 days, k 1", round.play(0, 1, 1), 1);
        ParishYears far = Check.valleyOf(BY_400);
        e.due("400 days, k 2", far.play(0, 1, 2), 1);
        e.due("400 days, k 6", far.play(0, 1, 6), 1);
        e.due("400 days, k 8", far.play(0, 1, 8), 4);
        e.of(28, "who comes to that has won: the fewest days with which who begins can win.");
        for (int way = 1; way <= 9; way++) {
            e.due(way + " days, k 9: at once", apart(way).play(0, 1, 9), way);
            e.due(way + " days, k 3", apart(way).play(0, 1, 3), way % 4 == 0 ? -1 : way % 4);
        }
        e.due("11 days, k 9: leaves 10", apart(11).play(0, 1, 9), 1);
        e.due("19 days, k 9: leaves 10", apart(19).play(0, 1, 9), 9);
        e.of(28, "PLAY of two PARISHES for k (1 to 9): days;");
        e.due("5 days, k 1", apart(5).play(0, 1, 1), 1);
        e.due("5 days, k 9", apart(5).play(0, 1, 9), 5);
        ParishYears held = apart(5);
        held.hold(0);
        e.due("5 days, k 9, HELD", held.play(0, 1, 9), 5);
        e.due("nothing is SKIPPED", held.now(6), 0);
    }

    private void playNone() {
        e.of(28, "NONE: with none, they have one date today, or not in 400 days, no such ones.");
        e.due("2 days, k 1", apart(2).play(0, 1, 1), -1);
        e.due("10 days, k 9", apart(10).play(0, 1, 9), -1);
        e.due("380 days, k 9", apart(380).play(0, 1, 9), -1);
        e.due("one date", apart(390).play(0, 1, 9), -1);
        e.due("one date", apart(0).play(0, 1, 1), -1);
        e.due("one with itself", apart(1).play(0, 0, 9), -1);
        e.due("in 401 days", Check.valleyOf(BY_401).play(0, 1, 2), -1);
        e.due("never, q to p", Check.valleyOf(BY_400).play(1, 0, 2), -1);
        e.due("never", Check.valleyOf(NEVER).play(0, 1, 9), -1);
        ParishYears x = apart(1);
        e.due("k 0", x.play(0, 1, 0), -1);
        e.due("k 10", x.play(0, 1, 10), -1);
        e.due("k -1", x.play(0, 1, -1), -1);
        e.due("k -2", x.play(0, 1, -2), -1);
        e.due("k most", x.play(0, 1, Integer.MAX_VALUE), -1);
        e.due("k least", x.play(0, 1, Integer.MIN_VALUE), -1);
        e.due("no PARISH", x.play(0, 2, 1), -1);
        e.due("no PARISH", x.play(2, 0, 1), -1);
        e.due("no PARISH", x.play(-1, 0, 1), -1);
        e.due("no PARISH", x.play(0, -1, 1), -1);
        e.due("none at all", new ParishYears().play(0, 0, 1), -1);
    }
}
