/** Promises 1 to 5 and 46: the new object, the tape, the VALLEY's text and its FAULTS. */
public final class TextTest {
    private static final Check check = new Check();

    public static void main(String[] args) {
        newObject();
        tape();
        soundValleys();
        faultsOfTokens();
        faultsOfNumbers();
        faultsOfNames();
        faultsOfMany();
        faultsOfLength();
        valleyBeginsAnew();
        check.end();
    }

    private static void newObject() {
        ParishYears x = new ParishYears();
        check.due("1 count(0)", x.count(0), 0);
        check.due("1 count(1)", x.count(1), 0);
        check.due("46 count(2)", x.count(2), 365);
        check.due("46 count(3)", x.count(3), 1);
        check.due("1 count(4)", x.count(4), 0);
        check.due("46 count(5)", x.count(5), -1);
        check.due("46 count(-1)", x.count(-1), -1);
        check.due("5 fault()", x.fault(), 0);
        check.due("NONE", ParishYears.NONE, -1);
    }

    private static void tape() {
        ParishYears x = new ParishYears();
        for (int i = 1; i <= 47; i++) {
            check.due("2 feed " + i, x.feed(i, 0, 0, 0, 0), 20 * i);
        }
        check.due("2 feed beyond 940", x.feed(1, 2, 3, 4, 5), -1);
        check.due("46 count(4)", x.count(4), 940);
        check.due("3 end(941)", x.end(941), false);
        check.due("3 end(-1)", x.end(-1), false);
        check.due("46 count(4) stays", x.count(4), 940);
        check.due("3 end(940)", x.end(940), true);
        check.due("3 end(921)", x.end(921), true);
        check.due("2 feed of 921", x.feed(0, 0, 0, 0, 0), -1);
        check.due("3 end(920)", x.end(920), true);
        check.due("2 feed of 920", x.feed(0, 0, 0, 0, 0), 940);
        check.due("3 end(0)", x.end(0), true);
        check.due("3 end(1) of none", x.end(1), false);
        // 'sun ' ; '1   ' ; '2;  ': the highest byte of each number comes first.
        check.due("2 feed", x.feed(0x73756e20, 0x31202020, 0x323b2020, 0x20202020, 0x20202020), 20);
        check.due("4 valley()", x.valley(), 1);
        check.due("4 the tape is empty then", x.count(4), 0);
        check.due("46 count(2)", x.count(2), 1);
        check.due("46 count(3)", x.count(3), 2);
    }

    private static void sound(String text, int lines, int parishes, int feasts) {
        ParishYears x = new ParishYears();
        check.due("4 valley: " + text, Check.valley(x, text), lines);
        check.due("5 fault: " + text, x.fault(), 0);
        check.due("46 PARISHES: " + text, x.count(0), parishes);
        check.due("46 FEASTS: " + text, x.count(1), feasts);
    }

    private static void soundValleys() {
        sound("", 0, 0, 0);
        sound(" \n ", 0, 0, 0);
        sound("parish p 2 2 2 0;", 1, 1, 0);
        sound("parish p 13 30 9 999;", 1, 1, 0);
        sound("parish\np 02 002 2 000 ; leap p 9 9;sun 999 30;", 3, 1, 0);
        sound("parish village 2 2 2 0;feast harvest village 1 1;", 2, 1, 1);
        sound("parish p 2 2 2 0;leap p 1 1;feast f p 0 0;", 3, 1, 1);
        sound("sun 1 1;", 1, 0, 0);
        String five = "parish a 2 2 2 0;parish b 2 2 2 0;parish c 2 2 2 0;parish d 2 2 2 0;parish e 2 2 2 0;";
        String leaps = "leap a 1 1;leap b 1 1;leap c 1 1;leap d 1 1;leap e 1 1;";
        String six = "feast f a 0 0;feast g b 0 0;feast h c 0 0;feast i d 0 0;feast j e 0 0;feast k a 0 0;";
        sound(five + leaps + six + "sun 9 9;", 17, 5, 6);
    }

    private static void faulty(String text, int kind, int place) {
        ParishYears x = Check.valleyOf("parish kept 2 2 2 0;");
        check.due("4 valley: " + text, Check.valley(x, text), -1 - place);
        check.due("5 fault: " + text, x.fault(), kind);
        check.due("4 it stays: " + text, x.count(0), 1);
        check.due("4 the tape is empty then: " + text, x.count(4), 0);
    }

    private static void faultsOfTokens() {
        faulty("x", 1, 0);
        faulty("parish", 1, 6);
        faulty("parish  ", 1, 8);
        faulty("parish p 2 2 2 0", 1, 16);
        faulty("parish p 2 2 2 0 0;", 1, 17);
        faulty("parish p 2 2 2;", 1, 14);
        faulty("parish p 2 2 2 0;;", 1, 17);
        faulty(";", 1, 0);
        faulty(" 12", 1, 1);
        faulty("holds;", 1, 0);
        faulty("Parish p 2 2 2 0;", 1, 0);
        faulty("parish eightlet 2 2 2 0;", 1, 7);
        faulty("parish p1 2 2 2 0;", 1, 7);
        faulty("parish p 2a 2 2 0;", 1, 9);
        faulty("parish p 2 2 2 1000;", 1, 15);
        faulty("parish p 0002 2 2 0;", 1, 9);
        faulty("parish p\t2 2 2 0;", 1, 8);
        faulty("parish p 2 2 2 0.", 1, 16);
        faulty("parish p -2 2 2 0;", 1, 9);
        faulty("parish p 2 2 2 (0);", 1, 15);
        faulty("parish p 2 2 2 0;" + (char) 233, 1, 17);
        faulty("parish p 2 2 2 0;" + (char) 0, 1, 17);
        for (String word : new String[] {"parish", "leap", "feast", "sun", "holds", "skips", "day", "or", "and", "not",
            "between", "held", "keeps", "with", "year", "month", "date", "week", "number"}) {
            faulty("parish " + word + " 2 2 2 0;", 1, 7);
            faulty("feast " + word + " p 0 0;", 1, 6);
            faulty("leap " + word + " 1 1;", 1, 5);
        }
    }

    private static void faultsOfNumbers() {
        faulty("parish p 1 2 2 0;", 2, 9);
        faulty("parish p 14 2 2 0;", 2, 9);
        faulty("parish p 2 1 2 0;", 2, 11);
        faulty("parish p 2 31 2 0;", 2, 11);
        faulty("parish p 2 2 1 0;", 2, 13);
        faulty("parish p 2 2 10 0;", 2, 13);
        faulty("parish p 2 2 2 0;leap p 0 1;", 2, 24);
        faulty("parish p 2 2 2 0;leap p 10 1;", 2, 24);
        faulty("parish p 2 2 2 0;leap p 1 0;", 2, 26);
        faulty("parish p 2 2 2 0;leap p 1 10;", 2, 26);
        faulty("parish p 2 3 2 0;feast f p 2 0;", 2, 27);
        faulty("parish p 2 3 2 0;leap p 1 1;feast f p 2 0;", 2, 38);
        faulty("parish p 2 3 2 0;feast f p 1 3;", 2, 29);
        faulty("sun 0 1;", 2, 4);
        faulty("sun 1 0;", 2, 6);
        faulty("sun 1 31;", 2, 6);
        faulty("sun 1 31", 2, 6);
    }

    private static void faultsOfNames() {
        faulty("parish p 2 2 2 0;parish p 2 2 2 0;", 3, 24);
        faulty("parish p 2 2 2 0;feast p p 0 0;", 3, 23);
        faulty("parish p 2 2 2 0;feast f p 0 0;feast f p 0 0;", 3, 37);
        faulty("parish p 2 2 2 0;feast f p 0 0;parish f 2 2 2 0;", 3, 38);
        faulty("leap p 1 1;", 3, 5);
        faulty("leap p 1 1;parish p 2 2 2 0;", 3, 5);
        faulty("feast f p 0 0;", 3, 8);
        faulty("parish p 2 2 2 0;feast f p 0 0;leap f 1 1;", 3, 36);
        faulty("parish p 2 2 2 0;feast f f 0 0;", 3, 25);
        faulty("parish p 2 2 2 0;leap p 1 1;leap p 1 1;", 3, 33);
        faulty("sun 1 1;sun 1 1;", 3, 8);
        // The NAMES of the VALLEY that was there are not told in a new one.
        faulty("leap kept 1 1;", 3, 5);
    }

    private static void faultsOfMany() {
        String five = "parish a 2 2 2 0;parish b 2 2 2 0;parish c 2 2 2 0;parish d 2 2 2 0;parish e 2 2 2 0;";
        faulty(five + " parish f 2 2 2 0;", 4, 86);
        faulty(five + "parish a 1 1 1 1", 4, 85);
        faulty(five + "parish", 4, 85);
        String six = "feast f a 0 0;feast g b 0 0;feast h c 0 0;feast i d 0 0;feast j e 0 0;feast k a 0 0;";
        faulty(five + six + "feast l a 0 0;", 4, 169);
        faulty(five + six + "\nfeast", 4, 170);
    }

    private static void faultsOfLength() {
        String line = "parish p 2 2 2 0;";
        String blanks = Check.repeated(" ", 900);
        ParishYears x = new ParishYears();
        check.due("4 of 900 bytes", Check.valley(x, line + blanks.substring(line.length())), 1);
        faulty(line + blanks.substring(line.length()) + " ", 1, 900);
        faulty(blanks + line, 1, 900);
        faulty(blanks + "?", 1, 900);
        faulty(blanks.substring(1) + "?", 1, 899);
        // What begins ahead of the 900th byte is read whole: here the FAULT is a NUMBER's or a NAME's.
        faulty(blanks.substring(5) + "sun 31 31;", 1, 900);
        faulty(blanks.substring(6) + "sun 0 1;", 2, 898);
        faulty(blanks.substring(5) + "sun 000 1;", 2, 899);
        faulty(blanks.substring(5) + "sun 0000 1;", 1, 899);
        faulty(blanks.substring(6) + "leap nobody 1;", 3, 899);
        faulty(blanks.substring(2) + "suns", 1, 898);
        faulty(blanks.substring(3) + "sun", 1, 900);
        faulty("sun 0 1;" + blanks + " ", 2, 4);
        faulty("sun 1" + blanks, 1, 900);
    }

    private static void valleyBeginsAnew() {
        ParishYears x = Check.valleyOf("parish oak 2 3 3 5;");
        x.hold(0);
        x.days(4);
        x.skip(0, 3);
        Check.sentence(x, "held");
        x.hold(0);
        check.due("4 valley", Check.valley(x, "parish elm 2 3 3 7;"), 1);
        check.due("4 DAY", x.now(0), 0);
        check.due("4 HELD", x.now(1), 0);
        check.due("4 days HELD", x.now(5), 0);
        check.due("4 days SKIPPED", x.now(6), 0);
        check.due("4 COUNT", x.parish(0, 5), 7);
        check.due("4 no SENTENCE", x.said(-1), -1);
        check.due("4 nothing to undo", x.undo(), -1);
    }
}
