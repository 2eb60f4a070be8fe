/** Counts the answers of a test, prints each that is not the one due, and ends the test. */
final class Check {
    private int right;
    private int wrong;

    void due(String what, long got, long want) {
        if (got == want) {
            right++;
            return;
        }
        wrong++;
        System.out.println(what + " answered " + got + ", due is " + want);
    }

    void due(String what, boolean got, boolean want) {
        due(what, got ? 1 : 0, want ? 1 : 0);
    }

    void throwsNoSuchElement(String what, Runnable call) {
        boolean thrown = false;
        try {
            call.run();
        } catch (java.util.NoSuchElementException e) {
            thrown = true;
        }
        due(what + " throws NoSuchElementException", thrown, true);
    }

    void end() {
        System.out.println("answers: " + right + " as due, " + wrong + " not");
        if (wrong != 0 || right == 0) {
            System.exit(1);
        }
    }

    /** Puts a text onto the tape, which must be empty. */
    static void tape(ParishYears x, String text) {
        int[] five = new int[5];
        int length = text.length();
        for (int from = 0; from < length; from += 20) {
            for (int i = 0; i < 5; i++) {
                five[i] = 0;
                for (int j = 0; j < 4; j++) {
                    int place = from + 4 * i + j;
                    five[i] = five[i] << 8 | (place < length ? text.charAt(place) & 255 : 0);
                }
            }
            if (x.feed(five[0], five[1], five[2], five[3], five[4]) == ParishYears.NONE) {
                throw new IllegalStateException("the text does not fit onto the tape");
            }
        }
        if (!x.end(length)) {
            throw new IllegalStateException("the tape has not so many bytes");
        }
    }

    static ParishYears valleyOf(String text) {
        ParishYears x = new ParishYears();
        tape(x, text);
        if (x.valley() < 0) {
            throw new IllegalStateException("no VALLEY: " + text);
        }
        return x;
    }

    static int valley(ParishYears x, String text) {
        tape(x, text);
        return x.valley();
    }

    static int book(ParishYears x, String text, int lives) {
        tape(x, text);
        return x.book(lives);
    }

    static int sentence(ParishYears x, String text) {
        tape(x, text);
        return x.sentence();
    }

    static int wrote(ParishYears x, int month, int date, int weekday) {
        letter(x, month, date, weekday);
        return x.wrote();
    }

    static int ago(ParishYears x, int p, int month, int date, int weekday) {
        letter(x, month, date, weekday);
        return x.ago(p);
    }

    private static void letter(ParishYears x, int month, int date, int weekday) {
        x.feed(month << 24 | date << 16 | weekday << 8, 0, 0, 0, 0);
        x.end(3);
    }

    static String titleText(ParishYears x, int p) {
        int length = x.title(p);
        StringBuilder text = new StringBuilder();
        for (int i = 0; i < length; i++) {
            text.append((char) x.byteAt(i));
        }
        return text.toString();
    }

    static String repeated(String text, int times) {
        return text.repeat(times);
    }
}
