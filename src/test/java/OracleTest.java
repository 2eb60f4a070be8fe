import java.lang.reflect.InvocationTargetException;
import java.lang.reflect.Method;
import java.util.ArrayList;
import java.util.Comparator;
import java.util.List;
import java.util.Random;

/** Long runs of calls by a fixed seed: each answer is compared with the Oracle's, all promises mixed. */
public final class OracleTest {
    private static final int RUNS = 1500;
    /** An object is used for 512 calls at most; a text, fed and read, takes 60 of them at most. */
    private static final int CALLS = 512 - 60;

    private final Random random;
    private final Check check = new Check();
    private final List<Method> ours = new ArrayList<>();
    private ParishYears x;
    private Oracle y;
    private StringBuilder run;
    private int made;
    private boolean differs;

    private OracleTest(long seed) {
        random = new Random(seed);
        for (Method m : ParishYears.class.getDeclaredMethods()) {
            if (java.lang.reflect.Modifier.isPublic(m.getModifiers())) {
                ours.add(m);
            }
        }
        ours.sort(Comparator.comparing(Method::getName));
    }

    public static void main(String[] args) throws Exception {
        new OracleTest(args.length > 0 ? Long.parseLong(args[0]) : 20261118L).compareAll();
    }

    private void compareAll() throws Exception {
        for (int i = 0; i < RUNS; i++) {
            x = new ParishYears();
            y = new Oracle();
            run = new StringBuilder();
            made = 0;
            Texts texts = new Texts(random);
            while (made < CALLS && !differs) {
                someText(texts);
                Method m = ours.get(random.nextInt(ours.size()));
                if (!m.getName().equals("valley") || random.nextInt(20) == 0) {
                    compare(m, arguments(m));
                }
            }
            if (differs) {
                System.out.println("run " + i + " was:" + run);
                break;
            }
        }
        check.end();
    }

    private Object answer(Object of, Method m, Object[] args) throws Exception {
        try {
            Object got = m.invoke(of, args);
            return got instanceof Boolean ? Integer.valueOf((Boolean) got ? 1 : 0) : got;
        } catch (InvocationTargetException e) {
            return e.getCause().getClass().getName();
        }
    }

    private void compare(Method m, Object[] args) throws Exception {
        if (differs) {
            return;
        }
        Method theirs = Oracle.class.getMethod(m.getName(), m.getParameterTypes());
        Object got = answer(x, m, args);
        Object want = answer(y, theirs, args);
        made++;
        String call = m.getName() + List.of(args);
        run.append('\n').append(call).append(" = ").append(want);
        differs = !got.equals(want);
        check.due(call + " (" + got + " for " + want + ")", differs, false);
    }

    private Object[] of(int... numbers) {
        Object[] all = new Object[numbers.length];
        for (int i = 0; i < numbers.length; i++) {
            all[i] = numbers[i];
        }
        return all;
    }

    private Method named(String name) {
        for (Method m : ours) {
            if (m.getName().equals(name)) {
                return m;
            }
        }
        throw new IllegalStateException(name);
    }

    /** Now and then a text is fed and read, by the way of the calls themselves. */
    private void someText(Texts texts) throws Exception {
        int what = y.count(0) == 0 ? random.nextInt(20) : random.nextInt(160);
        if (what > 12) {
            return;
        }
        if (what <= 1 || y.count(0) == 0) {
            feed(texts.valley());
            compare(named("valley"), of());
            compare(named("fault"), of());
        } else if (what <= 6) {
            feed(texts.book(y.now(0) > 9000));
            compare(named("book"), of(random.nextInt(10) == 0 ? 2 : random.nextInt(2)));
            for (int i = -1; i < 5; i++) {
                compare(named("told"), of(i));
            }
        } else if (what <= 10) {
            feed(texts.sentence());
            compare(named("sentence"), of());
            compare(named("fault"), of());
            for (int i = -2; i < 5; i++) {
                compare(named("said"), of(i));
            }
        } else if (what == 11) {
            for (int i = 0; i < 9; i++) {
                compare(named("days"), of(999));
            }
        } else {
            feed(letter());
            Method reader = named(random.nextBoolean() ? "wrote" : "ago");
            compare(reader, arguments(reader));
        }
    }

    private String letter() {
        int p = random.nextInt(5);
        StringBuilder text = new StringBuilder();
        int back = random.nextBoolean() ? 0 : -random.nextInt(300);
        for (int i = 1; i <= 3; i++) {
            int said = random.nextInt(4) == 0 ? random.nextInt(10) : Math.max(0, y.at(p, back, i));
            text.append((char) (random.nextInt(3) == 0 ? 255 : said));
        }
        text.setLength(random.nextInt(10) == 0 ? 2 : 3);
        return text.toString();
    }

    private void feed(String text) throws Exception {
        compare(named("end"), of(0));
        for (int from = 0; from < text.length(); from += 20) {
            int[] five = new int[5];
            for (int i = 0; i < 20; i++) {
                int c = from + i < text.length() ? text.charAt(from + i) : random.nextInt(256);
                five[i / 4] = five[i / 4] << 8 | c;
            }
            compare(named("feed"), of(five));
        }
        compare(named("end"), of(text.length()));
        compare(named("count"), of(4));
    }

    private int wild() {
        int[] edges = {Integer.MIN_VALUE, Integer.MAX_VALUE, -1, -2, 0, 1, 1000, 10000, 100000};
        return edges[random.nextInt(edges.length)];
    }

    private int within(int low, int high) {
        int n = random.nextInt(12);
        if (n == 0) {
            return low + random.nextInt(2);
        }
        if (n == 1) {
            return high - random.nextInt(2);
        }
        if (n == 2 && random.nextInt(3) == 0) {
            return random.nextBoolean() ? low - 1 : high + 1;
        }
        if (n == 3 && random.nextInt(6) == 0) {
            return wild();
        }
        return low + random.nextInt(high - low + 1);
    }

    private int parishNumber() {
        return within(0, Math.max(0, y.count(0) - 1));
    }

    private int feastNumber() {
        return within(0, Math.max(0, y.count(1) - 1));
    }

    private Object[] dated() {
        int p = parishNumber();
        int back = random.nextInt(2000);
        if (random.nextInt(3) > 0 && y.at(p, -back, 0) != Oracle.NONE) {
            return of(p, y.at(p, -back, 0), y.at(p, -back, 1), y.at(p, -back, 2));
        }
        int year = random.nextInt(8) == 0 ? within(0, 999) : within(0, 30);
        return of(p, year, within(0, 8), within(0, 12));
    }

    private Object[] arguments(Method m) {
        switch (m.getName()) {
            case "feed": return of(random.nextInt(), random.nextInt(), random.nextInt(), random.nextInt(), wild());
            case "end": return of(within(0, Math.max(0, y.count(4))));
            case "parish": return of(parishNumber(), within(0, 8));
            case "at": return of(parishNumber(), random.nextInt(4) == 0 ? within(-9999, 99999) : within(-900, 900),
                within(0, 3));
            case "countOf":
            case "age": return dated();
            case "feast": return of(feastNumber(), within(0, 3));
            case "now": return of(within(0, 6));
            case "hold":
            case "title":
            case "ago": return of(parishNumber());
            case "skip": return of(parishNumber(), within(1, 99));
            case "days": return of(random.nextBoolean() ? within(1, 20) : within(1, 999));
            case "next": return of(feastNumber());
            case "falls": return of(feastNumber(), random.nextBoolean() ? within(0, 20) : within(0, 9999));
            case "meet": return of(feastNumber(), feastNumber());
            case "fair": return of(within(1, Math.max(1, (1 << y.count(0)) - 1)));
            case "drift": return of(parishNumber(), within(0, 1));
            case "tune": return of(parishNumber(), within(1, 30));
            case "agree": return of(parishNumber(), parishNumber());
            case "match": return of(parishNumber(), parishNumber(), within(0, 999));
            case "play": return of(parishNumber(), parishNumber(), within(1, 9));
            case "crowd": return of(within(0, 999));
            case "born": return of(parishNumber(), within(1, 99));
            case "byteAt": return of(within(0, 35));
            case "drawn": return of(within(1, 99), random.nextInt());
            case "odds": return of(feastNumber(), within(1, 30), random.nextInt(4) == 0 ? wild() : random.nextInt());
            case "book": return of(within(0, 1));
            case "told": return of(within(0, 3));
            case "said": return of(within(-1, 4));
            case "image":
            case "restore": return of(within(0, 1));
            case "count": return of(within(0, 4));
            default: return of();
        }
    }
}
