import java.util.ArrayList;
import java.util.List;
import java.util.Random;

/** Texts by draws: most are sound, some are hurt in one place, some are too long or too full. */
final class Texts {
    private static final String[] NAMES = {"a", "oak", "elm", "ash", "hill", "brook", "village", "mill", "ford",
        "wake", "harvest", "yule", "lent", "x", "may", "march", "plough", "lammas"};
    private static final String[] STRAY = {"parish", "leap", "feast", "sun", "holds", "skips", "day", "or", "and",
        "not", "between", "held", "keeps", "with", "year", "month", "date", "week", "number", ";", "<", "=", ">", "(",
        ")", ".", "0", "1", "9", "10", "31", "99", "100", "999", "1000", "a1", "1a", "eightlet", "oak", "elm", "x",
        "nobody", "A", "-", "\t", "\u00e9", "\u0000"};

    private final Random random;
    private List<String> parishes = new ArrayList<>();
    private List<String> feasts = new ArrayList<>();

    Texts(Random random) {
        this.random = random;
    }

    private int from(int low, int high) {
        return low + random.nextInt(high - low + 1);
    }

    private <T> T one(List<T> all, T other) {
        return all.isEmpty() ? other : all.get(random.nextInt(all.size()));
    }

    private String number(int n) {
        return n < 100 && random.nextInt(10) == 0 ? "0" + n : String.valueOf(n);
    }

    String valley() {
        List<String> names = new ArrayList<>(List.of(NAMES));
        List<String> tokens = new ArrayList<>();
        parishes = new ArrayList<>();
        feasts = new ArrayList<>();
        List<int[]> shapes = new ArrayList<>();
        boolean small = random.nextBoolean();
        int many = random.nextInt(12) == 0 ? 6 : from(0, 5);
        for (int i = 0; i < many; i++) {
            String name = names.remove(random.nextInt(names.size()));
            int[] shape = {from(2, small ? 4 : 13), from(2, small ? 5 : 30)};
            tokens.addAll(List.of("parish", name, number(shape[0]), number(shape[1]), number(from(2, 9)),
                number(random.nextInt(4) == 0 ? from(0, 999) : from(0, 60)), ";"));
            parishes.add(name);
            shapes.add(shape);
            if (random.nextBoolean()) {
                tokens.addAll(List.of("leap", name, number(from(1, 9)), number(from(1, 9)), ";"));
            }
            if (random.nextInt(40) == 0) {
                tokens.addAll(List.of("leap", name, "1", "1", ";"));
            }
        }
        int holy = many == 0 ? 0 : random.nextInt(12) == 0 ? 7 : from(0, 6);
        for (int i = 0; i < holy; i++) {
            String name = names.remove(random.nextInt(names.size()));
            int p = random.nextInt(many);
            tokens.addAll(List.of("feast", name, parishes.get(p), number(random.nextInt(shapes.get(p)[0])),
                number(random.nextInt(shapes.get(p)[1])), ";"));
            feasts.add(name);
        }
        if (random.nextBoolean()) {
            tokens.addAll(List.of("sun", number(from(1, 999)), number(from(1, 30)), ";"));
        }
        if (random.nextInt(40) == 0) {
            tokens.addAll(List.of("sun", "1", "1", ";"));
        }
        return spoilt(tokens, 900);
    }

    String book(boolean late) {
        List<String> tokens = new ArrayList<>();
        int many = random.nextInt(10) == 0 ? from(38, 43) : from(0, 12);
        for (int i = 0; i < many; i++) {
            String name = one(parishes, "oak");
            int what = random.nextInt(4);
            if (what == 0) {
                tokens.addAll(List.of(name, "holds", ";"));
            } else if (what == 1 && many < 38) {
                tokens.addAll(List.of(name, "skips", number(from(1, 99)), ";"));
            } else {
                tokens.addAll(List.of("day", number(late ? from(1, 999) : from(1, 9)), ";"));
            }
        }
        return spoilt(tokens, 400);
    }

    String sentence() {
        List<String> tokens = new ArrayList<>();
        cond(tokens, random.nextInt(6) == 0 ? 9 : 4, random.nextInt(6) == 0 ? 4 : 2);
        return spoilt(tokens, 200);
    }

    private void cond(List<String> tokens, int depth, int wide) {
        one(tokens, depth, wide);
        int more = random.nextInt(wide);
        for (int i = 0; i < more; i++) {
            tokens.add(random.nextBoolean() ? "or" : "and");
            one(tokens, depth, wide);
        }
    }

    private void one(List<String> tokens, int depth, int wide) {
        int what = random.nextInt(depth > 4 ? 3 : 9);
        if (depth > 0 && what == 0) {
            tokens.add("not");
            one(tokens, depth - 1, wide);
        } else if (depth > 0 && what <= 2) {
            tokens.add("(");
            cond(tokens, depth - 1, depth > 4 ? 1 : wide);
            tokens.add(")");
        } else if (what == 3) {
            tokens.add(random.nextBoolean() ? "between" : "held");
        } else if (what == 4) {
            tokens.addAll(List.of("keeps", one(feasts, "wake")));
        } else if (what == 5) {
            tokens.addAll(List.of("with", one(parishes, "oak")));
        } else {
            tokens.add(one(List.of("year", "month", "date", "week", "number"), ""));
            tokens.add(one(List.of("<", "=", ">"), ""));
            tokens.add(number(from(0, random.nextInt(20) == 0 ? 999 : 5)));
        }
    }

    private String spoilt(List<String> tokens, int most) {
        if (random.nextInt(4) == 0 && !tokens.isEmpty()) {
            int at = random.nextInt(tokens.size());
            String stray = STRAY[random.nextInt(STRAY.length)];
            switch (random.nextInt(4)) {
                case 0: tokens.remove(at); break;
                case 1: tokens.add(at, stray); break;
                case 2: tokens.set(at, stray); break;
                default: tokens = new ArrayList<>(tokens.subList(0, at)); break;
            }
        }
        StringBuilder text = new StringBuilder();
        boolean lavish = random.nextInt(12) == 0;
        for (int i = 0; i < tokens.size(); i++) {
            String token = tokens.get(i);
            boolean needed = i > 0 && token.matches("[a-z0-9].*") && tokens.get(i - 1).matches(".*[a-z0-9]");
            int blanks = lavish ? random.nextInt(6) : random.nextInt(4) == 0 ? 1 : 0;
            for (int b = 0; b < Math.max(blanks, needed && random.nextInt(300) > 0 ? 1 : 0); b++) {
                text.append(random.nextInt(5) == 0 ? '\n' : ' ');
            }
            text.append(token);
        }
        return stretched(text, most);
    }

    /** Puts blanks in so that a text ends near the most bytes that it may have, or beyond. */
    private String stretched(StringBuilder text, int most) {
        if (random.nextInt(8) == 0 && text.length() < most) {
            int to = Math.min(940, most + from(-3, 12));
            int at = random.nextInt(3) == 0 ? text.length() : random.nextInt(text.length() + 1);
            while (text.length() < to) {
                text.insert(at, ' ');
            }
        }
        if (text.length() > 940) {
            text.setLength(940);
        }
        return text.toString();
    }
}
