/**
 * The tape and the VALLEY's text: promises 1 to 5 and 46.
 *
 * Cases of these stand in TextTest too, by number alone; each sentence has its own here.
 */
final class TextEdges {
    private static final String FIVE = "parish a 2 2 2 0;parish b 2 2 2 0;parish c 2 2 2 0;parish d 2 2 2 0;"
        + "parish e 2 2 2 0;";
    private static final String SIX = "feast f a 0 0;feast g b 0 0;feast h c 0 0;feast i d 0 0;feast j e 0 0;"
        + "feast k a 0 0;";
    private static final String[] WORDS = {"parish", "leap", "feast", "sun", "holds", "skips", "day", "or", "and",
        "not", "between", "held", "keeps", "with", "year", "month", "date", "week", "number"};
    private static final String P = "parish p 2 3 2 0;";

    private final Edges e;

    TextEdges(Edges e) {
        this.e = e;
    }

    void run() {
        newObject();
        feed();
        end();
        valley();
        fault();
        tokens();
        valleyText();
        parishLine();
        leapLine();
        feastLine();
        sunLine();
        names();
        numbers();
        faultsAlong();
        faultsOfTokens();
        faultsOfLength();
        faultsOfKinds();
        newValley();
        count();
    }

    private void sound(String text, int lines) {
        ParishYears x = new ParishYears();
        e.due("valley() of " + text, Check.valley(x, text), lines);
        e.due("fault() of " + text, x.fault(), 0);
    }

    private void faulty(String text, int kind, int place) {
        ParishYears x = Check.valleyOf("parish kept 2 2 2 0;");
        e.due("valley() of " + text, Check.valley(x, text), -1 - place);
        e.due("fault() of " + text, x.fault(), kind);
    }

    private static String blanks(int n) {
        return " ".repeat(n);
    }

    private void newObject() {
        e.of(1, "A VALLEY without PARISHES");
        ParishYears x = new ParishYears();
        e.due("count(0)", x.count(0), 0);
        e.due("count(1)", x.count(1), 0);
        e.due("title(0)", x.title(0), -1);
        e.due("next(0)", x.next(0), -1);
        e.due("now(0)", x.now(0), 0);
        e.due("now(1)", x.now(1), 0);
        e.due("count(2)", x.count(2), 365);
        e.due("count(3)", x.count(3), 1);
        e.of(1, "an empty tape.");
        e.due("count(4)", x.count(4), 0);
        e.due("end(1)", x.end(1), false);
        e.due("end(0)", x.end(0), true);
        e.due("valley()", x.valley(), 0);
    }

    private void feed() {
        e.of(2, "Twenty bytes come behind the tape, of each number the highest first");
        ParishYears x = new ParishYears();
        // COUNT 5 is DATE 1 of MONTH 0, weekday 2.
        Check.valley(x, "parish p 2 2 3 5;");
        x.feed(0xff010203, 0, 0, 0, 0);
        x.end(3);
        e.due("wrote() by 255, 1, 2", x.wrote(), 1);
        x.feed(0x73756e20, 0x20202020, 0x20202020, 0x20202020, 0x20202031);
        x.feed(0x32332037, 0x3b202020, 0x20202020, 0x20202020, 0x20202020);
        e.due("valley() of 'sun 123 7;' on two feeds", x.valley(), 1);
        e.due("count(2)", x.count(2), 123);
        e.due("count(3)", x.count(3), 7);
        x.feed(0x73756e20, 0x34352038, 0x3b20200a, 0x20202020, 0x2020200a);
        e.due("valley() of five numbers in their order", x.valley(), 1);
        e.due("count(2)", x.count(2), 45);
        e.due("count(3)", x.count(3), 8);
        e.of(2, "how many it has;");
        ParishYears y = new ParishYears();
        for (int i = 1; i <= 46; i++) {
            e.due("feed() " + i, y.feed(-1, -1, -1, -1, -1), 20 * i);
        }
        y.end(3);
        e.due("feed() behind end(3)", y.feed(0, 0, 0, 0, 0), 23);
        e.of(2, "NONE, and none come, if it would have more than 940.");
        ParishYears full = new ParishYears();
        for (int i = 0; i < 46; i++) {
            full.feed(0, 0, 0, 0, 0);
        }
        e.due("the 47th, to 940", full.feed(0, 0, 0, 0, 0), 940);
        e.due("the 48th", full.feed(0, 0, 0, 0, 0), -1);
        e.due("count(4)", full.count(4), 940);
        full.end(921);
        e.due("to 941", full.feed(0, 0, 0, 0, 0), -1);
        e.due("count(4)", full.count(4), 921);
        full.end(920);
        e.due("to 940", full.feed(0, 0, 0, 0, 0), 940);
    }

    private void end() {
        e.of(3, "The tape has its first n bytes alone: true;");
        ParishYears x = new ParishYears();
        Check.tape(x, "sun 7 7;sun 8 8;");
        e.due("end(16), all of them", x.end(16), true);
        e.due("count(4)", x.count(4), 16);
        e.due("end(8)", x.end(8), true);
        e.due("count(4)", x.count(4), 8);
        e.due("valley() of the first 8", x.valley(), 1);
        e.due("count(2)", x.count(2), 7);
        x.feed(0x73756e20, 0x38203939, 0x3b3b3b3b, 0, 0);
        e.due("end(7) of 'sun 8 99', in a NUMBER", x.end(7), true);
        e.due("valley() of 'sun 8 9'", x.valley(), -1 - 7);
        x.feed(0x68656c64, 0x68656c64, 0, 0, 0);
        e.due("end(4) of 'heldheld'", x.end(4), true);
        e.due("sentence() of 'held'", x.sentence(), 1);
        Check.tape(x, "?");
        e.due("end(0)", x.end(0), true);
        e.due("valley() of none", x.valley(), 0);
        e.of(3, "false, if it has not so many, or n is below 0.");
        e.due("end(1) of none", x.end(1), false);
        Check.tape(x, "sun 7 7;");
        e.due("end(9) of 8", x.end(9), false);
        e.due("end(-1)", x.end(-1), false);
        e.due("end(most)", x.end(Integer.MAX_VALUE), false);
        e.due("end(least)", x.end(Integer.MIN_VALUE), false);
        e.due("count(4) behind these", x.count(4), 8);
        e.due("valley() behind these", x.valley(), 1);
    }

    private void valley() {
        e.of(4, "The tape (empty then, here and below) is the VALLEY now");
        ParishYears x = new ParishYears();
        Check.tape(x, P);
        x.valley();
        e.due("count(0)", x.count(0), 1);
        e.due("count(4) behind valley()", x.count(4), 0);
        Check.tape(x, "?");
        x.valley();
        e.due("count(4) behind valley() with a FAULT", x.count(4), 0);
        Check.tape(x, "p holds;");
        x.book(0);
        e.due("count(4) behind book(0)", x.count(4), 0);
        Check.tape(x, "p holds");
        x.book(1);
        e.due("count(4) behind book(1) with a FAULT", x.count(4), 0);
        Check.tape(x, "held");
        x.sentence();
        e.due("count(4) behind sentence()", x.count(4), 0);
        Check.tape(x, "held held");
        x.sentence();
        e.due("count(4) behind sentence() with a FAULT", x.count(4), 0);
        Check.tape(x, "abc");
        x.wrote();
        e.due("count(4) behind wrote()", x.count(4), 0);
        Check.tape(x, "abcd");
        x.wrote();
        e.due("count(4) behind wrote() of NONE", x.count(4), 0);
        Check.tape(x, "abc");
        x.ago(0);
        e.due("count(4) behind ago()", x.count(4), 0);
        Check.tape(x, "abc");
        x.ago(1);
        e.due("count(4) behind ago() of no PARISH", x.count(4), 0);
        e.due("valley() of the empty tape", x.valley(), 0);
        e.due("count(0)", x.count(0), 0);
        e.of(4, "how many LINES;");
        sound("", 0);
        sound("sun 1 1;", 1);
        sound(FIVE + SIX + "leap a 1 1;leap b 1 1;leap c 1 1;leap d 1 1;leap e 1 1;sun 1 1;", 17);
        e.of(4, "-1 less the place of a FAULT:");
        faulty("?", 1, 0);
        faulty(P + "?", 1, 17);
        faulty(blanks(899) + "?", 1, 899);
        e.of(4, "it stays.");
        ParishYears y = Check.valleyOf("parish p 2 3 2 4;feast f p 1 1;sun 7 3;");
        Check.sentence(y, "held");
        y.days(5);
        y.hold(0);
        e.due("valley() with a FAULT at its end", Check.valley(y, "parish q 3 3 3 3;parish r 3 3 3 3;sun 1 1"), -42);
        e.due("count(0)", y.count(0), 1);
        e.due("count(1)", y.count(1), 1);
        e.due("count(2)", y.count(2), 7);
        e.due("count(3)", y.count(3), 3);
        e.due("parish(0, 0)", y.parish(0, 0), 2);
        e.due("parish(0, 5)", y.parish(0, 5), 9);
        e.due("now(0)", y.now(0), 5);
        e.due("now(1)", y.now(1), 1);
        e.due("said(-1)", y.said(-1), 1);
        e.due("undo()", y.undo(), 1);
        e.due("title(0)", Check.titleText(y, 0).equals("p year 1 month 1 day 0"), true);
    }

    private void fault() {
        e.of(5, "The kind of the FAULT of the latest valley(), book() or sentence()");
        ParishYears x = Check.valleyOf(P);
        Check.valley(x, "parish");
        e.due("of valley(): 1", x.fault(), 1);
        Check.valley(x, "sun 0 1;");
        e.due("of valley(): 2", x.fault(), 2);
        Check.valley(x, "leap p 1 1;");
        e.due("of valley(): 3", x.fault(), 3);
        Check.valley(x, FIVE + "parish");
        e.due("of valley(): 4", x.fault(), 4);
        Check.book(x, "p skips 0;", 0);
        e.due("of book(0)", x.fault(), 2);
        Check.sentence(x, "with nobody");
        e.due("of sentence()", x.fault(), 3);
        Check.book(x, "p", 1);
        e.due("of book(1)", x.fault(), 1);
        e.due("wrote() is none of these", x.wrote(), -1);
        e.due("fault() behind it", x.fault(), 1);
        e.of(5, "(a book() of -1000 leaves it)");
        Check.sentence(x, "with nobody");
        e.due("book(2)", x.book(2), -1000);
        e.due("fault()", x.fault(), 3);
        e.due("book(-1)", x.book(-1), -1000);
        e.due("fault()", x.fault(), 3);
        e.of(5, "0 without one and ahead of any.");
        e.due("ahead of any", new ParishYears().fault(), 0);
        Check.valley(x, "?");
        Check.sentence(x, "held");
        e.due("of a sentence() without one", x.fault(), 0);
        Check.valley(x, "?");
        Check.book(x, "p holds;p holds;", 0);
        e.due("of a book(0) that is WRONG", x.fault(), 0);
        Check.valley(x, "?");
        Check.book(x, "", 1);
        e.due("of an empty book(1)", x.fault(), 0);
        Check.valley(x, "?");
        Check.valley(x, "");
        e.due("of an empty valley()", x.fault(), 0);
    }

    private void tokens() {
        e.of(4, "TOKENS of all texts, with blanks (32, 10) between them or not:");
        sound("parish p\n2\n 3 2 0\n;\n", 1);
        sound("parish p 2 3 2 0;leap p 1 1;", 2);
        sound("\n\n  parish p 2 3 2 0  ;  leap p 1 1;  ", 2);
        sound(" \n ", 0);
        faulty("parish" + (char) 9 + "p 2 3 2 0;", 1, 6);
        faulty("parish" + (char) 13 + "p 2 3 2 0;", 1, 6);
        faulty("parish" + (char) 11 + "p 2 3 2 0;", 1, 6);
        faulty("parish" + (char) 160 + "p 2 3 2 0;", 1, 6);
        faulty("parish p 2 3 2 0;" + (char) 0, 1, 17);
        faulty("parish p 2 3 2 0;" + (char) 138, 1, 17);
        e.of(4, "WORDS: small letters, 1 to 7;");
        sound("parish a 2 3 2 0;parish z 2 3 2 0;", 2);
        sound("parish abcdefg 2 3 2 0;", 1);
        faulty("parish abcdefgh 2 3 2 0;", 1, 7);
        faulty("parish aB 2 3 2 0;", 1, 8);
        faulty("parish A 2 3 2 0;", 1, 7);
        faulty("parish ` 2 3 2 0;", 1, 7);
        faulty("parish { 2 3 2 0;", 1, 7);
        faulty("parish " + (char) 225 + " 2 3 2 0;", 1, 7);
        faulty("suns 1 1;", 1, 0);
        faulty("a".repeat(940), 1, 0);
        faulty("parishpp 2 3 2 0;", 1, 0);
        e.of(4, "NUMBERS: 1 to 3 digits;");
        sound("sun 1 1;", 1);
        sound("sun 001 030;", 1);
        faulty("sun 0001 1;", 1, 4);
        faulty("1".repeat(940), 1, 0);
        faulty("sun " + "1".repeat(936), 1, 4);
        faulty("sun 1 0001;", 1, 6);
        faulty("sun 1000 1;", 1, 4);
        faulty("sun / 1;", 1, 4);
        faulty("sun : 1;", 1, 4);
        faulty("sun -1 1;", 1, 4);
        faulty("sun +1 1;", 1, 4);
        e.of(42, "; < = > ( ) .");
        ParishYears x = Check.valleyOf("parish p 2 3 2 0;");
        e.due("sentence() with ( < = > )", Check.sentence(x, "(year<1)or(date=0)or week>0"), 5);
        e.due("book() with ;", Check.book(x, "day 1;p holds;", 0), -1);
        for (String sign : new String[] {".", ",", "?", ":", "[", "]", "*", "!", "<=", "=="}) {
            Check.sentence(x, "year " + sign + " 1");
            e.due("fault() of a SIGN " + sign, x.fault(), 1);
        }
        faulty("sun 1 1.", 1, 7);
        faulty("sun 1 1:", 1, 7);
        e.of(4, "(A WORD, NUMBER goes on as long as small letters and digits do; what is not as told is no TOKEN.)");
        faulty("sun1 1;", 1, 0);
        faulty("parish p2 3 2 0;", 1, 7);
        faulty("parish 2p 3 2 0;", 1, 7);
        faulty("sun 1a 1;", 1, 4);
        faulty("sun a1 1;", 1, 4);
        faulty("sun 1 1sun 1 1;", 1, 6);
        faulty("sun 1 1;x1", 1, 8);
        faulty("parish p;", 1, 8);
    }

    private void valleyText() {
        e.of(4, "A VALLEY is a text of at most 900 bytes:");
        sound(P + blanks(883), 1);
        sound(blanks(883) + P, 1);
        sound(blanks(900), 0);
        faulty(P + blanks(884), 1, 900);
        faulty(blanks(884) + P, 1, 900);
        faulty(blanks(901), 1, 900);
        faulty(blanks(940), 1, 900);
        e.of(4, "{ LINE ; }. LINE:");
        sound("sun 1 1 ;", 1);
        faulty("sun 1 1", 1, 7);
        faulty("sun 1 1;;", 1, 8);
        faulty(";", 1, 0);
        faulty("sun 1 1;1", 1, 8);
        faulty("sun 1 1;month", 1, 8);
        faulty("sun 1 1;day 1;", 1, 8);
        faulty("sun 1 1;oak", 1, 8);
        faulty("sun 1 1)", 1, 7);
        faulty("sun 1 1 sun 1 1;", 1, 8);
    }

    private void parishLine() {
        e.of(4, "'parish' NAME MONTHS DAYS WEEK COUNT");
        ParishYears x = Check.valleyOf("parish p 3 4 5 6;");
        e.due("MONTHS", x.parish(0, 0), 3);
        e.due("DAYS", x.parish(0, 1), 4);
        e.due("WEEK", x.parish(0, 2), 5);
        e.due("COUNT", x.parish(0, 5), 6);
        faulty("parish;", 1, 6);
        faulty("parish 3 4 5 6;", 1, 7);
        faulty("parish p;", 1, 8);
        faulty("parish p 3;", 1, 10);
        faulty("parish p 3 4;", 1, 12);
        faulty("parish p 3 4 5;", 1, 14);
        faulty("parish p 3 4 5 6 7;", 1, 17);
        e.of(4, "(2 to 13;");
        sound("parish p 2 9 9 0;", 1);
        sound("parish p 13 9 9 0;", 1);
        faulty("parish p 0 9 9 0;", 2, 9);
        faulty("parish p 1 9 9 0;", 2, 9);
        faulty("parish p 14 9 9 0;", 2, 9);
        faulty("parish p 999 9 9 0;", 2, 9);
        e.of(4, "2 to 30 in each MONTH;");
        sound("parish p 9 2 9 0;", 1);
        sound("parish p 9 30 9 0;", 1);
        faulty("parish p 9 0 9 0;", 2, 11);
        faulty("parish p 9 1 9 0;", 2, 11);
        faulty("parish p 9 31 9 0;", 2, 11);
        e.of(4, "2 to 9; 0 to 999: its COUNT at DAY 0)");
        sound("parish p 9 9 2 0;", 1);
        sound("parish p 9 9 9 0;", 1);
        faulty("parish p 9 9 0 0;", 2, 13);
        faulty("parish p 9 9 1 0;", 2, 13);
        faulty("parish p 9 9 10 0;", 2, 13);
        e.due("COUNT 0", Check.valleyOf("parish p 9 9 9 0;").parish(0, 5), 0);
        e.due("COUNT 999", Check.valleyOf("parish p 9 9 9 999;").parish(0, 5), 999);
        faulty("parish p 9 9 9 1000;", 1, 15);
        e.due("now(0)", Check.valleyOf("parish p 9 9 9 999;").now(0), 0);
    }

    private void leapLine() {
        e.of(4, "| 'leap' PARISH N EVERY");
        ParishYears x = Check.valleyOf(P + "leap p 3 7;");
        e.due("N", x.parish(0, 3), 3);
        e.due("EVERY", x.parish(0, 4), 7);
        faulty(P + "leap;", 1, 21);
        faulty(P + "leap 1 1;", 1, 22);
        faulty(P + "leap p;", 1, 23);
        faulty(P + "leap p 1;", 1, 25);
        faulty(P + "leap p 1 1 1;", 1, 28);
        e.of(4, "(1 to 9 days each 1 to 9 years;");
        sound(P + "leap p 1 1;", 2);
        sound(P + "leap p 9 9;", 2);
        faulty(P + "leap p 0 1;", 2, 24);
        faulty(P + "leap p 10 1;", 2, 24);
        faulty(P + "leap p 1 0;", 2, 26);
        faulty(P + "leap p 1 10;", 2, 26);
        e.of(4, "once for each;");
        sound(P + "parish q 2 2 2 0;leap q 1 1;leap p 1 1;", 4);
        faulty(P + "leap p 1 1;leap p 1 1;", 3, 33);
        faulty(P + "parish q 2 2 2 0;leap p 1 1;leap q 1 1;leap p 9 9;", 3, 61);
        e.of(4, "none without)");
        ParishYears y = Check.valleyOf("parish p 2 2 2 0;parish q 2 2 2 0;leap q 1 1;");
        e.due("days put in", y.parish(0, 3), 0);
        e.due("EVERY", y.parish(0, 4), 1);
        e.due("MONTH of COUNT 4 without", y.at(0, 4, 1), 0);
        e.due("MONTH of COUNT 4 with", y.at(1, 4, 1), 2);
        e.due("valley() with the same PARISHES and the other's 'leap'",
            Check.valley(y, "parish p 2 2 2 0;parish q 2 2 2 0;leap p 2 3;"), 3);
        e.due("days put in, told once in the VALLEY before", y.parish(1, 3), 0);
        e.due("EVERY", y.parish(1, 4), 1);
        e.due("MONTH of COUNT 4 without", y.at(1, 4, 1), 0);
    }

    private void feastLine() {
        e.of(4, "| 'feast' NAME PARISH MONTH DATE");
        ParishYears x = Check.valleyOf("parish q 2 2 2 0;parish p 4 4 2 0;feast f p 2 3;");
        e.due("PARISH", x.feast(0, 0), 1);
        e.due("MONTH", x.feast(0, 1), 2);
        e.due("DATE", x.feast(0, 2), 3);
        faulty(P + "feast;", 1, 22);
        faulty(P + "feast 1;", 1, 23);
        faulty(P + "feast f;", 1, 24);
        faulty(P + "feast f 1;", 1, 25);
        faulty(P + "feast f p;", 1, 26);
        faulty(P + "feast f p 1;", 1, 28);
        faulty(P + "feast f p 1 1 1;", 1, 31);
        e.of(4, "(0 to MONTHS less 1;");
        sound("parish p 13 2 2 0;feast f p 0 0;feast g p 12 0;", 3);
        sound("parish p 2 2 2 0;feast f p 1 0;", 2);
        faulty("parish p 13 2 2 0;feast f p 13 0;", 2, 28);
        faulty("parish p 2 2 2 0;feast f p 2 0;", 2, 27);
        faulty("parish p 2 2 2 0;leap p 9 1;feast f p 2 0;", 2, 38);
        e.of(4, "0 to DAYS less 1)");
        sound("parish p 2 30 2 0;feast f p 0 0;feast g p 0 29;", 3);
        sound("parish p 2 2 2 0;feast f p 0 1;", 2);
        faulty("parish p 2 30 2 0;feast f p 0 30;", 2, 30);
        faulty("parish p 9 2 2 0;feast f p 0 2;", 2, 29);
        faulty("parish q 9 9 2 0;parish p 9 2 2 0;feast f p 0 2;", 2, 46);
    }

    private void sunLine() {
        e.of(4, "| 'sun' N YEARS (N days, 1 to 999, in 1 to 30 years;");
        sound("sun 1 1;", 1);
        sound("sun 999 30;", 1);
        faulty("sun 0 1;", 2, 4);
        faulty("sun 1 0;", 2, 6);
        faulty("sun 1 31;", 2, 6);
        faulty("sun 1000 1;", 1, 4);
        faulty("sun;", 1, 3);
        faulty("sun 1;", 1, 5);
        faulty("sun p 1;", 1, 4);
        e.of(4, "once; 365 in 1 without).");
        faulty("sun 1 1;sun 1 1;", 3, 8);
        ParishYears x = Check.valleyOf("sun 7 7;");
        e.due("count(2)", x.count(2), 7);
        e.due("valley() without 'sun'", Check.valley(x, P), 1);
        e.due("count(2) without", x.count(2), 365);
        e.due("count(3) without", x.count(3), 1);
    }

    private void names() {
        e.of(4, "NAME: a WORD, none of those told here, in a BOOK or a SENTENCE;");
        for (String word : WORDS) {
            faulty("parish " + word + " 2 2 2 0;", 1, 7);
            faulty(P + "feast " + word + " p 0 0;", 1, 23);
            faulty(P + "feast f " + word + " 0 0;", 1, 25);
            faulty(P + "leap " + word + " 1 1;", 1, 22);
        }
        sound("parish days 2 2 2 0;parish hold 2 2 2 0;parish years 2 2 2 0;parish o 2 2 2 0;parish no 2 2 2 0;"
            + "feast dates no 0 0;feast keep no 0 0;feast weeks no 0 0;feast an no 0 0;feast valley no 0 0;", 10);
        e.of(4, "told once.");
        faulty(P + "parish p 2 2 2 0;", 3, 24);
        faulty(P + "feast p p 0 0;", 3, 23);
        faulty(P + "feast f p 0 0;feast f p 0 0;", 3, 37);
        faulty(P + "feast f p 0 0;parish f 2 2 2 0;", 3, 38);
        sound(P + "parish pp 2 2 2 0;feast ppp pp 0 0;", 3);
        ParishYears x = Check.valleyOf(P + "feast f p 0 0;");
        e.due("the NAMES of the VALLEY before", Check.valley(x, P + "feast f p 0 0;"), 2);
        e.due("the NAMES of the VALLEY before", Check.valley(x, "parish f 2 2 2 0;feast p f 0 0;"), 2);
    }

    private void numbers() {
        e.of(4, "5 PARISHES, 6 FEASTS at most,");
        sound(FIVE, 5);
        faulty(FIVE + "parish f 2 2 2 0;", 4, 85);
        sound(FIVE + SIX, 11);
        faulty(FIVE + SIX + "feast l a 0 0;", 4, 169);
        sound(P + "feast a p 0 0;feast b p 0 0;feast c p 0 0;feast d p 0 0;feast e p 0 0;feast f p 0 0;", 7);
        e.of(4, "numbered from 0 each.");
        ParishYears x = Check.valleyOf("parish a 2 2 2 0;feast f a 0 0;parish b 3 2 2 0;feast g b 0 1;"
            + "parish c 4 2 2 0;parish d 5 2 2 0;parish e 6 2 2 0;feast h e 5 1;");
        for (int p = 0; p < 5; p++) {
            e.due("MONTHS of PARISH " + p, x.parish(p, 0), 2 + p);
        }
        e.due("PARISH of FEAST 0", x.feast(0, 0), 0);
        e.due("PARISH of FEAST 1", x.feast(1, 0), 1);
        e.due("PARISH of FEAST 2", x.feast(2, 0), 4);
        e.throwsNoSuchElement("parish(5, 0)", () -> x.parish(5, 0));
        e.due("feast(3, 0)", x.feast(3, 0), -1);
    }

    private void faultsAlong() {
        e.of(4, "FAULTS, the first along the text,");
        faulty("sun 0 31;sun 1 1", 2, 4);
        faulty("leap p 0 0;?", 3, 5);
        faulty("? sun 0 1;", 1, 0);
        faulty(FIVE + "parish a 1 1 1 1;", 4, 85);
        faulty(P + "leap p 1 1;leap p 0 0;", 3, 33);
        faulty("sun 1 1;sun 0 0;", 3, 8);
        e.of(40, "of one TOKEN the least:");
        ParishYears x = Check.valleyOf("parish p 2 2 2 0;feast f p 0 0;");
        String forty = "day 1;".repeat(40);
        e.due("a 41st LINE of a PARISH", Check.book(x, forty + "p holds;", 0), -2 - 240);
        e.due("4 alone", x.fault(), 4);
        e.due("a 41st LINE of no PARISH", Check.book(x, forty + "q holds;", 0), -2 - 240);
        e.due("3 and 4", x.fault(), 3);
        e.due("a 41st LINE of a FEAST", Check.book(x, forty + "f holds;", 0), -2 - 240);
        e.due("3 and 4", x.fault(), 3);
        e.due("a 41st LINE that is none", Check.book(x, forty + "holds;", 0), -2 - 240);
        e.due("1 and 4", x.fault(), 1);
        String twenty = "held" + " or held".repeat(19) + " or ";
        e.due("a 21st ONE", Check.sentence(x, twenty + "not"), -1 - 160);
        e.due("4 alone", x.fault(), 4);
        e.due("a 21st ONE that is none", Check.sentence(x, twenty + "or"), -1 - 160);
        e.due("1 and 4", x.fault(), 1);
        e.due("a ninth within that is none", Check.sentence(x, "not ".repeat(8) + ")"), -1 - 32);
        e.due("1 and 4", x.fault(), 1);
    }

    private void faultsOfTokens() {
        e.of(4, "1 no TOKEN, or one that can't come (at it;");
        faulty("  ?", 1, 2);
        faulty("  (", 1, 2);
        faulty("sun ( 1;", 1, 4);
        faulty("sun sun 1;", 1, 4);
        faulty("parish p 2 2 2 0;  =", 1, 19);
        faulty("parish p 2 2 2 x;", 1, 15);
        faulty("parish p 2 2 2 1234", 1, 15);
        e.of(4, "the end: how many bytes there are;");
        faulty("sun", 1, 3);
        faulty("sun   ", 1, 6);
        faulty("sun 1 1\n\n", 1, 9);
        faulty(blanks(897) + "sun", 1, 900);
        ParishYears x = Check.valleyOf(P);
        e.due("sentence() of none", Check.sentence(x, ""), -1);
        e.due("its FAULT", x.fault(), 1);
        e.due("sentence() of blanks", Check.sentence(x, "    "), -5);
        e.due("sentence() of 200 blanks", Check.sentence(x, blanks(200)), -201);
        e.due("book() that ends too soon", Check.book(x, "p  ", 0), -5);
    }

    private void faultsOfLength() {
        e.of(4, "the most bytes told, if there are more and no FAULT is ahead:");
        faulty("sun 1 1;" + blanks(893), 1, 900);
        faulty("sun 1 1" + blanks(894), 1, 900);
        faulty("sun 0 1;" + blanks(893), 2, 4);
        faulty(blanks(900) + "?", 1, 900);
        faulty(blanks(899) + "?" + "?", 1, 899);
        faulty(blanks(892) + "sun 1 1 ;", 1, 900);
        ParishYears x = Check.valleyOf(P);
        e.due("book() of 401 bytes", Check.book(x, "p holds;" + blanks(393), 1), -2 - 400);
        e.due("its FAULT", x.fault(), 1);
        e.due("nothing is HELD", x.now(1), 0);
        e.due("book() of 401 bytes with a FAULT", Check.book(x, "p skips 0;" + blanks(391), 1), -2 - 8);
        e.due("its FAULT", x.fault(), 2);
        e.due("sentence() of 201 bytes", Check.sentence(x, "held" + blanks(197)), -1 - 200);
        e.due("its FAULT", x.fault(), 1);
        e.due("sentence() of 201 bytes with a FAULT", Check.sentence(x, "keeps p" + blanks(194)), -1 - 6);
        e.due("its FAULT", x.fault(), 3);
        e.of(4, "TOKENS that begin ahead of it are read whole);");
        faulty(blanks(895) + "sun 100 1;", 1, 900);
        faulty(blanks(895) + "sun 000 1;", 2, 899);
        faulty(blanks(895) + "sun 1000 1;", 1, 899);
        faulty(blanks(894) + "leap nobody 1;", 3, 899);
        faulty(blanks(899) + "sun 0 1;", 1, 900);
        faulty(blanks(899) + "suns", 1, 899);
        faulty(blanks(896) + "sun 0 1;", 1, 900);
        e.due("book(): 'p skips 100' from 391 on", Check.book(x, blanks(391) + "p skips 100;", 0), -2 - 399);
        e.due("its FAULT", x.fault(), 2);
        e.due("book(): 'p skips 0' from 392 on", Check.book(x, blanks(392) + "p skips 0;", 0), -2 - 400);
        e.due("its FAULT", x.fault(), 1);
        e.due("sentence(): 'with nobody' from 194 on", Check.sentence(x, blanks(194) + "with nobody"), -1 - 199);
        e.due("its FAULT", x.fault(), 3);
        e.due("sentence(): 'with nobody' from 195 on", Check.sentence(x, blanks(195) + "with nobody"), -1 - 200);
        e.due("its FAULT", x.fault(), 1);
    }

    private void faultsOfKinds() {
        e.of(4, "2 a NUMBER that is not as told (at it);");
        faulty("sun  0 1;", 2, 5);
        faulty("sun 1 031;", 2, 6);
        faulty("parish p 1", 2, 9);
        e.of(4, "3 a NAME told twice, not told, or of another sort,");
        faulty(P + "parish  p", 3, 25);
        faulty("leap nobody 1 1;", 3, 5);
        faulty("leap p 1 1;" + P, 3, 5);
        faulty("feast f nobody 0 0;", 3, 8);
        faulty("feast f f 0 0;", 3, 8);
        faulty("leap kept 1 1;", 3, 5);
        faulty(P + "feast f p 0 0;leap f 1 1;", 3, 36);
        faulty(P + "feast f p 0 0;feast g f 0 0;", 3, 39);
        ParishYears x = Check.valleyOf(P + "feast f p 0 0;");
        e.due("book() by a FEAST's NAME", Check.book(x, "f holds;", 0), -2);
        e.due("its FAULT", x.fault(), 3);
        e.due("sentence(): 'keeps' a PARISH", Check.sentence(x, "keeps p"), -1 - 6);
        e.due("its FAULT", x.fault(), 3);
        e.due("sentence(): 'with' a FEAST", Check.sentence(x, "with f"), -1 - 5);
        e.due("its FAULT", x.fault(), 3);
        ParishYears full = Check.valleyOf(FIVE + SIX);
        e.due("sentence(): 'keeps' none of six", Check.sentence(full, "keeps none"), -1 - 6);
        e.due("its FAULT", full.fault(), 3);
        e.due("sentence(): 'with' none of five", Check.sentence(full, "with none"), -1 - 5);
        e.due("its FAULT", full.fault(), 3);
        e.of(4, "a second 'leap' of a PARISH (at the PARISH), 'sun' told again (at the WORD);");
        faulty(P + "leap p 1 1;leap   p 0", 3, 35);
        faulty(P + "sun 1 1;leap p 1 1;leap p 1 1;", 3, 41);
        faulty("sun 1 1;" + P + "  sun", 3, 27);
        e.of(40, "4 one more than there may be of a sort, a 41st LINE of a BOOK (at the LINE's first WORD),");
        faulty(FIVE + "  parish", 4, 87);
        faulty(FIVE + SIX + "sun 1 1;  feast", 4, 179);
        e.due("book() of 40 LINES", Check.book(x, "day 1;".repeat(40), 0), -1);
        e.due("book() of 41 LINES", Check.book(x, "day 1;".repeat(40) + "  p", 0), -2 - 242);
        e.due("its FAULT", x.fault(), 4);
        e.due("book() of 41 LINES", Check.book(x, "p skips 1;".repeat(39) + "day 1;day", 0), -2 - 396);
        e.due("its FAULT", x.fault(), 4);
        e.of(42, "a 21st ONE, a ninth within (at its first TOKEN).");
        e.due("a 21st ONE", Check.sentence(x, "held" + " and held".repeat(19) + " and  (held)"), -1 - 181);
        e.due("its FAULT", x.fault(), 4);
        e.due("a ninth within", Check.sentence(x, "(not (not (not (not   held and held))))"), -1 - 22);
        e.due("its FAULT", x.fault(), 4);
        e.due("a ninth within", Check.sentence(x, "((((((((year"), -1 - 8);
        e.due("its FAULT", x.fault(), 4);
    }

    private void newValley() {
        e.of(4, "A new VALLEY: DAY 0, nothing HELD, no SENTENCE.");
        ParishYears x = Check.valleyOf("parish p 2 3 2 5;");
        Check.sentence(x, "held");
        x.skip(0, 9);
        x.hold(0);
        x.days(3);
        x.hold(0);
        e.due("valley()", Check.valley(x, "parish p 2 3 2 5;"), 1);
        e.due("the DAY", x.now(0), 0);
        e.due("HELD", x.now(1), 0);
        e.due("days HELD so far", x.now(5), 0);
        e.due("days SKIPPED so far", x.now(6), 0);
        e.due("COUNT", x.parish(0, 5), 5);
        e.due("said(-1)", x.said(-1), -1);
        e.due("said(0)", x.said(0), -1);
        e.due("undo(): no act of this VALLEY", x.undo(), -1);
        x.days(999);
        e.due("valley() of none", Check.valley(x, ""), 0);
        e.due("the DAY", x.now(0), 0);
        ParishYears five = Check.valleyOf(FIVE);
        for (int p = 0; p < 5; p++) {
            five.hold(p);
            five.skip(p, 9);
        }
        Check.valley(five, "parish a 2 2 2 1;parish b 2 2 2 2;parish c 2 2 2 3;parish d 2 2 2 4;parish e 2 2 2 5;");
        for (int p = 0; p < 5; p++) {
            e.due("COUNT of PARISH " + p, five.parish(p, 5), p + 1);
            e.due("HELD of PARISH " + p, five.parish(p, 6), 0);
            e.due("days HELD of PARISH " + p, five.parish(p, 7), 0);
            e.due("days SKIPPED of PARISH " + p, five.parish(p, 8), 0);
        }
    }

    private void count() {
        e.of(46, "0 PARISHES, 1 FEASTS, 2 days of 'sun', 3 its YEARS, 4 bytes of the tape.");
        ParishYears x = Check.valleyOf(FIVE + SIX + "sun 999 30;");
        x.feed(0, 0, 0, 0, 0);
        x.end(13);
        int[] want = {5, 6, 999, 30, 13};
        for (int what = 0; what < want.length; what++) {
            e.due("count(" + what + ")", x.count(what), want[what]);
        }
        e.of(46, "NONE for another what.");
        e.due("count(5)", x.count(5), -1);
        e.due("count(-1)", x.count(-1), -1);
        e.due("count(most)", x.count(Integer.MAX_VALUE), -1);
        e.due("count(least)", x.count(Integer.MIN_VALUE), -1);
    }
}
