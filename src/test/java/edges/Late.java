/** Lets days go by in as few calls as can be. */
final class Late {
    private Late() {
    }

    static void goTo(ParishYears x, int day) {
        while (x.now(0) < day) {
            x.days(Math.min(999, day - x.now(0)));
        }
    }

    static ParishYears valleyOn(String text, int day) {
        ParishYears x = Check.valleyOf(text);
        goTo(x, day);
        return x;
    }
}
