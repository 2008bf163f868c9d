import java.lang.reflect.InvocationTargetException;
import java.lang.reflect.Method;
import java.util.ArrayList;
import java.util.HashMap;
import java.util.List;
import java.util.Map;
import java.util.Random;
import java.util.TreeMap;

/** All promises together: runs of 512 calls on a new object, each held to the model's answer; and none may throw. */
public final class RandomRunsTest {
    private static final int RUNS = 1500, CALLS = 512;
    private static final Check CHECK = new Check("RandomRunsTest");
    private static final String[] WORDS = {"setup", "licences", "rate", "first", "late", "fire", "hall", "regular",
        "party", "club", "funeral", "school", ";", "0", "1", "5", "12345", "x", "", "?"};
    private static final String[] USES = {"regular", "party", "club", "funeral", "school"};

    private final Random random;
    private final VillageHalls halls = new VillageHalls();
    private final Model model = new Model();
    private final List<String> calls = new ArrayList<>();
    private final Map<String, Method> ofHalls = methods(VillageHalls.class);
    private final Map<String, Method> ofModel = methods(Model.class);
    private final Map<String, Integer> good;
    private final int theDay;
    private boolean right = true;

    private RandomRunsTest(long seed, Map<String, Integer> good) {
        random = new Random(seed);
        theDay = seed % 5 == 0 ? 364 : random.nextInt(365);
        this.good = good;
    }

    public static void main(String[] args) throws Exception {
        Map<String, Integer> good = new TreeMap<>();
        int failed = 0;
        for (int seed = 1; seed <= RUNS && failed < 5; seed++) {
            RandomRunsTest run = new RandomRunsTest(seed, good);
            run.go();
            failed += run.right ? 0 : 1;
        }
        for (String name : methods(VillageHalls.class).keySet()) {
            CHECK.due(name + " has good answers", 1, good.getOrDefault(name, 0) > 100 ? 1 : 0);
        }
        CHECK.end();
    }

    private static Map<String, Method> methods(Class<?> type) {
        Map<String, Method> named = new HashMap<>();
        for (Method m : type.getDeclaredMethods()) {
            if (java.lang.reflect.Modifier.isPublic(m.getModifiers())) {
                named.put(m.getName(), m);
            }
        }
        return named;
    }

    private void go() throws Exception {
        while (right && calls.size() < CALLS) {
            switch (random.nextInt(12)) {
                case 0: case 1: bookOne(); break;
                case 2: readOne(); break;
                default: callOne(); break;
            }
        }
    }

    private void call(String name, Object... args) throws Exception {
        if (!right || calls.size() >= CALLS) {
            return;
        }
        StringBuilder text = new StringBuilder(name).append('(');
        for (Object a : args) {
            text.append(text.charAt(text.length() - 1) == '(' ? "" : ", ").append(a);
        }
        calls.add(text.append(')').toString());
        int want = (Integer) ofModel.get(name).invoke(model, args);
        int got;
        try {
            got = (Integer) ofHalls.get(name).invoke(halls, args);
        } catch (InvocationTargetException e) {
            System.out.println(text + " threw " + e.getCause());
            got = want + 1;
        }
        CHECK.due(text.toString(), want, got);
        if (want > -1000000) {
            good.merge(name, 1, Integer::sum);
        }
        if (got != want) {
            right = false;
            System.out.println(String.join("\n", calls));
        }
    }

    // Mostly a number that may stand there, at times one at the edge, at times any.
    private int pick(int least, int greatest) {
        int kind = random.nextInt(200);
        if (kind == 0) {
            return random.nextInt();
        }
        if (kind == 1) {
            return random.nextBoolean() ? Integer.MIN_VALUE : Integer.MAX_VALUE;
        }
        if (kind < 5) {
            return random.nextBoolean() ? least - 1 : greatest + 1;
        }
        if (kind < 12) {
            return random.nextBoolean() ? least : greatest;
        }
        return least + random.nextInt(greatest - least + 1);
    }

    private int aDay() {
        int kind = random.nextInt(8);
        return kind == 0 ? pick(0, 364) : Math.max(0, Math.min(364, theDay + random.nextInt(3) - 1));
    }

    private int knownDay() {
        return random.nextInt(6) == 0 ? pick(0, 364) : Math.max(0, theDay - random.nextInt(12));
    }

    private int aHall() {
        return random.nextInt(3) > 0 ? 0 : pick(0, 3);
    }

    private void bookOne() throws Exception {
        int sheet = random.nextInt(8);
        int shift = random.nextInt(3);
        int from = 30 + random.nextInt(40);
        int day = aDay();
        int[] items = {aHall(), random.nextInt(3) > 0 ? 0 : pick(0, 1), day, from, from + 1 + random.nextInt(12),
            random.nextInt(5) == 0 ? pick(1, 999) : 20 + random.nextInt(85), pick(0, 4), pick(0, 1),
            random.nextInt(10) == 0 ? pick(0, 364) : Math.max(0, day - random.nextInt(12))};
        call("sheet", sheet, 1 + random.nextInt(2), 9 + shift);
        for (int i = 0; i < 9; i++) {
            call("set", sheet, shift + i, items[i]);
        }
        call("book", sheet, shift);
        if (random.nextInt(4) == 0) {
            call("cancel", pick(0, 15), day - random.nextInt(12));
        }
    }

    private void readOne() throws Exception {
        StringBuilder text = new StringBuilder();
        int halls = 1 + random.nextInt(2);
        for (int h = 0; h < halls; h++) {
            text.append("hall ").append(random.nextInt(3) > 0 ? 0 : random.nextInt(4));
            int rules = 1 + random.nextInt(3);
            for (int r = 0; r < rules; r++) {
                text.append(random.nextInt(9) == 0 ? "\n" : " ").append(aRule());
            }
            text.append(";");
        }
        if (random.nextInt(3) == 0) {
            int at = random.nextInt(text.length());
            text.replace(at, Math.min(text.length(), at + random.nextInt(4)), WORDS[random.nextInt(WORDS.length)]);
        }
        if (random.nextInt(12) == 0) {
            text.append("  \n ".repeat(random.nextInt(90)));
        }
        feed(text.toString());
        call("rules");
        call("fault");
    }

    private String aRule() {
        switch (random.nextInt(6)) {
            case 0: return "setup " + random.nextInt(random.nextInt(4) == 0 ? 11 : 9);
            case 1: return "licences " + random.nextInt(random.nextInt(4) == 0 ? 52 : 4);
            case 2: return "rate " + USES[random.nextInt(5)] + " " + random.nextInt(random.nextInt(4) == 0 ? 1010 : 5);
            case 3: return "late " + random.nextInt(random.nextInt(4) == 0 ? 63 : 9) + " " + random.nextInt(102);
            case 4: return "fire " + random.nextInt(2) + " " + random.nextInt(random.nextInt(4) == 0 ? 503 : 120);
            default: {
                StringBuilder firsts = new StringBuilder("first");
                int n = 1 + random.nextInt(4);
                int from = random.nextInt(5);
                int step = random.nextInt(9) == 0 ? random.nextInt(5) : 1 + random.nextInt(4);
                for (int i = 0; i < n; i++) {
                    firsts.append(' ').append(USES[(from + i * step) % 5]);
                }
                return firsts.toString();
            }
        }
    }

    private void feed(String text) throws Exception {
        int i = 0;
        while (i < text.length()) {
            int n = Math.min(text.length() - i, random.nextInt(4) == 0 ? 1 + random.nextInt(8) : 8);
            long w = n < 8 ? random.nextLong() : 0;
            for (int j = 0; j < n; j++) {
                w = w << 8 | text.charAt(i + j);
            }
            call("feed", w, n);
            i += n;
        }
    }

    private void callOne() throws Exception {
        switch (random.nextInt(30)) {
            case 0: call("sheet", pick(0, 7), pick(0, 2), pick(0, 20)); break;
            case 1: call("set", pick(0, 7), pick(0, 11), random.nextInt()); break;
            case 2: call("copy", pick(0, 7), pick(0, 8), pick(0, 7), pick(0, 8), pick(0, 5)); break;
            case 3: call("drop", random.nextInt(4) == 0 ? pick(0, 7) : 8); break;
            case 4: call("feed", random.nextLong(), random.nextInt(5) == 0 ? pick(1, 8) : 9); break;
            case 5: call("hall", pick(0, 3), pick(0, 25)); break;
            case 6: call("book", pick(0, 7), pick(0, 2)); break;
            case 7: call("cancel", pick(0, 15), random.nextInt(3) > 0 ? 400 : knownDay()); break;
            case 8: call("told", pick(0, 15), pick(0, 10)); break;
            case 9: call("clash", pick(0, 15), pick(0, 15)); break;
            case 10: call("holding", knownDay(), pick(0, 2)); break;
            case 11: call("most", aHall(), pick(0, 1), aDay(), pick(0, 1)); break;
            case 12: case 13: case 14: {
                int from = pick(20, 60);
                int to = from == Integer.MAX_VALUE || random.nextInt(20) == 0 ? from : from + 1 + random.nextInt(30);
                call("funeral", aHall(), aDay(), from, to, pick(1, 120), pick(0, 18));
                break;
            }
            case 15: call("coin", aHall(), aDay(), pick(0, 95), pick(1, random.nextInt(3) == 0 ? 600 : 60)); break;
            case 16: call("run", aHall(), aDay(), pick(0, 96)); break;
            case 17: call("meter", aHall(), aDay(), pick(0, 96), pick(0, random.nextBoolean() ? 60 : 300)); break;
            case 18: call("give", pick(0, 1), pick(0, 3), pick(0, 3), aDay()); break;
            case 19: call("key", pick(0, 3), aDay(), pick(0, 1)); break;
            case 20: call("look", aHall(), aDay(), pick(20, 80), random.nextInt(3) > 0 ? 1 << random.nextInt(8) : pick(0, 255)); break;
            case 21: case 22: call("home", aHall(), pick(0, 7)); break;
            case 23: call("meeting", pick(1, 20), pick(0, 10), pick(0, 8), pick(0, 9), random.nextInt(3) == 0 ? Model.NONE : pick(0, 9)); break;
            case 24: call("met", pick(0, 9), pick(0, 2)); break;
            case 25: call("day", knownDay()); break;
            case 26: call("kind", pick(0, 15)); break;
            case 27: call("as", pick(0, 15), pick(0, 4)); call("status"); break;
            case 28: {
                call("ask", pick(0, 15), pick(0, 1));
                for (int i = 0; i < 7; i++) {
                    call("trace", i);
                }
                call("trace", pick(0, 16));
                break;
            }
            default: call("count", pick(0, 8)); call("status"); break;
        }
    }
}
