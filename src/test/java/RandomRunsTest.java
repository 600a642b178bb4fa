import java.util.ArrayList;
import java.util.List;
import java.util.NoSuchElementException;
import java.util.Random;

/** Runs of calls drawn by seeds, with the program's answers against those of PlainModel. */
public final class RandomRunsTest {
    private static final int SEEDS = 500;
    private static final int CALLS = 160;
    private static final int[] WILD = {Integer.MIN_VALUE, -1000000, -100, -3, -2, -1, 13, 31, 61, 100, 1000000, Integer.MAX_VALUE};
    private static final String[] NAMES = {"halt", "coach", "passenger", "sheet", "run", "go", "couple", "cut", "walk",
        "stand", "undo", "way", "course", "ahead", "arrives", "tips", "power", "lobby", "seat", "reseat", "close", "fetch",
        "heads", "seen", "forget", "rows", "been", "ask", "odds", "bargain", "nights", "keep", "again", "count", "row",
        "net", "coaches", "passengers", "rule", "law", "night", "sign", "end",
        "run", "run", "go", "go", "couple", "couple", "walk", "walk", "undo", "fetch", "seen", "seen", "seen", "power",
        "coaches", "passengers", "rule", "law", "night", "again", "again", "again", "again", "seat", "reseat", "close"};

    private static final List<String> READING = List.of("net", "coaches", "passengers", "rule", "law", "night");

    private final Random random;
    private final CoachesVote program = new CoachesVote();
    private final PlainModel model = new PlainModel();
    private final List<String> calls = new ArrayList<>();
    private boolean wrong;

    private RandomRunsTest(long seed) {
        random = new Random(seed);
    }

    public static void main(String[] args) {
        int failed = 0;
        for (long seed = 1; seed <= SEEDS && failed < 3; seed++) {
            failed += new RandomRunsTest(seed).play() ? 0 : 1;
        }
        System.out.println(failed == 0 ? "all runs are as the plain model's" : failed + " runs are not");
        System.exit(failed == 0 ? 0 : 1);
    }

    private boolean play() {
        try {
            begin();
            for (int i = 0; i < CALLS && !wrong; i++) {
                String name = NAMES[random.nextInt(NAMES.length)];
                if (READING.contains(name)) {
                    tellText(name);
                } else {
                    step(name, argsOf(name));
                }
            }
        } catch (RuntimeException e) {
            System.out.println(calls);
            throw e;
        }
        return !wrong;
    }

    private void begin() {
        say(netText(1 + random.nextInt(9)));
        step("net");
        say(coachText(1 + random.nextInt(6)));
        step("coaches");
        say(passengerText(1 + random.nextInt(12)));
        step("passengers");
        step("keep", 0);
    }

    private void tellText(String name) {
        if (name.equals("net") && random.nextInt(8) > 0) {
            return;
        }
        String t = name.equals("net") ? netText(1 + random.nextInt(9))
                : name.equals("coaches") ? coachText(random.nextInt(4))
                : name.equals("passengers") ? passengerText(random.nextInt(8))
                : name.equals("night") ? nightText() : ruleText();
        say(random.nextInt(4) == 0 ? spoilt(t) : t);
        step(name);
        if (name.equals("net")) {
            say(coachText(1 + random.nextInt(6)));
            step("coaches");
            say(passengerText(1 + random.nextInt(12)));
            step("passengers");
        }
    }

    // ---- texts

    private char pick(String signs) {
        return signs.charAt(random.nextInt(signs.length()));
    }

    private String netText(int n) {
        StringBuilder t = new StringBuilder().append(n).append(':');
        int holes = Math.max(0, random.nextInt(6) - 2);
        for (int i = 0; i < 2 * n; i++) {
            t.append(i > 0 && i % 2 == 0 ? ";" : "");
            if (random.nextInt(10) < holes) {
                t.append('-');
            } else {
                t.append((char) ('a' + random.nextInt(n))).append(1 + random.nextInt(random.nextBoolean() ? 2 : 9));
            }
        }
        return t.toString();
    }

    private char haltLetter() {
        return (char) ('a' + random.nextInt(program.count(0)));
    }

    private String coachText(int n) {
        StringBuilder t = new StringBuilder();
        for (int i = 0; i < n; i++) {
            t.append(random.nextInt(5) > 0 ? '+' : haltLetter());
        }
        return t.toString();
    }

    private String passengerText(int n) {
        StringBuilder t = new StringBuilder();
        boolean alike = random.nextBoolean();
        // With few halts to wish for, coaches agree more often, and trains get on.
        String wishes = "" + haltLetter() + haltLetter();
        for (int i = 0; i < n; i++) {
            t.append(i > 0 ? ";" : "").append(random.nextInt(Math.max(1, program.count(1))));
            t.append(random.nextInt(4) > 0 ? pick(wishes) : haltLetter()).append(1 + random.nextInt(alike ? 2 : 9));
        }
        return t.toString();
    }

    private String ruleText() {
        if (random.nextInt(6) == 0) {
            return "";
        }
        String t = expression(3);
        return t.length() > 44 && random.nextInt(3) > 0 ? t.substring(0, 5 + random.nextInt(40)) : t;
    }

    private String expression(int depth) {
        switch (depth <= 0 ? random.nextInt(2) : random.nextInt(7)) {
            case 0:
                return "" + pick("rckdpn");
            case 1:
                return "" + random.nextInt(random.nextBoolean() ? 10 : 1000);
            case 2:
                return "-" + expression(depth - 1);
            case 3:
                return "(" + expression(depth - 1) + ")";
            case 4:
                return "(" + expression(depth - 1) + pick("<>=") + expression(depth - 1) + ")";
            default:
                return expression(depth - 1) + pick("+-*/") + expression(depth - 1);
        }
    }

    private String nightText() {
        StringBuilder t = new StringBuilder();
        int n = random.nextInt(random.nextInt(5) == 0 ? 40 : 8);
        for (int i = 0; i < n; i++) {
            char act = pick("rrrccxgws");
            t.append(act);
            if (act == 'g') {
                t.append(pick("01"));
            } else if (act == 'w') {
                t.append(pick("aabbccddefghijkl"));
            }
            if ("xgws".indexOf(act) >= 0) {
                t.append(pick("0112233456789"));
            }
        }
        return t.toString();
    }

    private String spoilt(String t) {
        String signs = "abcdefghijklmnprswxz0123456789+-*/<>=();: " + (char) 0 + (char) 255;
        int p = random.nextInt(t.length() + 1);
        switch (random.nextInt(4)) {
            case 0:
                return t.substring(0, p);
            case 1:
                return t.substring(0, p) + pick(signs) + t.substring(p);
            case 2:
                return t.substring(0, p) + pick(signs) + t.substring(Math.min(t.length(), p + 1));
            default:
                return t + t;
        }
    }

    private void say(String t) {
        step("end", 0);
        String told = t.substring(0, Math.min(80, t.length()));
        for (int p = 0; p < told.length(); p += 4) {
            int v = 0;
            for (int i = p; i < p + 4; i++) {
                v = v << 8 | (i < told.length() ? told.charAt(i) : random.nextInt(256));
            }
            step("sign", v);
        }
        step("end", told.length());
        calls.add("# " + told);
    }

    // ---- calls

    private int upTo(int most) {
        return random.nextInt(12) == 0 ? WILD[random.nextInt(WILD.length)] : random.nextInt(most + 1);
    }

    private int coach() {
        return upTo(Math.max(0, program.count(1) - (random.nextInt(5) > 0 ? 1 : 0)));
    }

    private int rider() {
        return upTo(Math.max(0, program.count(2) - (random.nextInt(5) > 0 ? 1 : 0)));
    }

    private int station() {
        return upTo(program.count(0) - (random.nextInt(8) > 0 ? 1 : 0));
    }

    private int[] argsOf(String name) {
        switch (name) {
            case "halt":
                return new int[] {station(), upTo(6)};
            case "coach":
                return new int[] {coach(), upTo(7)};
            case "passenger":
                return new int[] {rider(), upTo(5)};
            case "sheet":
                return new int[] {upTo(4), upTo(13) - random.nextInt(2), random.nextInt(600) - 250, random.nextInt() >> random.nextInt(32)};
            case "go":
                return new int[] {upTo(random.nextInt(5) > 0 ? 1 : 2), upTo(Math.max(1, Integer.bitCount(program.count(5))))};
            case "cut":
                return new int[] {upTo(3)};
            case "walk":
                return new int[] {rider(), coach()};
            case "stand":
                return new int[] {upTo(100)};
            case "way":
                return new int[] {station(), station()};
            case "ahead":
            case "heads":
                return new int[] {upTo(31)};
            case "arrives":
            case "power":
            case "seat":
                return new int[] {rider()};
            case "tips":
                return new int[] {coach()};
            case "lobby":
                return new int[] {coach(), upTo(2)};
            case "reseat":
            case "close":
                return new int[] {upTo(13)};
            case "fetch":
                return new int[] {station()};
            case "seen":
                return new int[] {random.nextInt(4) == 0 ? upTo(13) : upTo(5), station(), random.nextInt(9) == 0 ? upTo(3) : random.nextInt(4) / 3};
            case "been":
                return new int[] {upTo(6)};
            case "odds":
                return new int[] {coach(), upTo(2), upTo(10)};
            case "bargain":
                return new int[] {upTo(21)};
            case "nights":
                return new int[] {random.nextInt(), upTo(61)};
            case "keep":
                return new int[] {1 + upTo(2)};
            case "again":
                // Back to the full train at most times.
                return new int[] {random.nextInt(4) == 0 ? upTo(3) : 0};
            case "count":
            case "row":
                return new int[] {upTo(12)};
            case "sign":
                return new int[] {random.nextInt()};
            case "end":
                return new int[] {upTo(80)};
            default:
                return new int[0];
        }
    }

    private void step(String name, int... args) {
        calls.add(name + java.util.Arrays.toString(args));
        long due = answer(model, name, args);
        long got = answer(program, name, args);
        if (got != due) {
            fault(name + " answered " + got + ", the model's answer is " + due);
            return;
        }
        for (int what = 0; what < 12; what++) {
            look("count", what);
        }
        for (int i = 0; i < model.row.size(); i++) {
            look("row", i);
        }
        for (int i = 0; i < model.count(2); i++) {
            look("passenger", i, 0);
            look("passenger", i, 2);
        }
        for (int c = 0; c < model.count(1); c++) {
            look("coach", c, 0);
            look("coach", c, 1);
        }
    }

    private void look(String name, int... args) {
        long due = answer(model, name, args);
        long got = answer(program, name, args);
        if (got != due) {
            fault("then " + name + java.util.Arrays.toString(args) + " answered " + got + ", the model's answer is " + due);
        }
    }

    private void fault(String what) {
        if (!wrong) {
            System.out.println(calls);
            System.out.println(what);
        }
        wrong = true;
    }

    /** Both are asked by the names of their methods, since they share no type. */
    private static long answer(Object whom, String name, int[] args) {
        Class<?>[] types = new Class<?>[args.length];
        Object[] values = new Object[args.length];
        for (int i = 0; i < args.length; i++) {
            types[i] = int.class;
            values[i] = args[i];
        }
        try {
            Object answer = whom.getClass().getDeclaredMethod(name, types).invoke(whom, values);
            return answer instanceof Boolean ? ((Boolean) answer ? 1 : 0) : ((Number) answer).longValue();
        } catch (java.lang.reflect.InvocationTargetException e) {
            if (e.getCause().getClass() == NoSuchElementException.class) {
                return Long.MIN_VALUE;
            }
            throw new IllegalStateException(whom.getClass() + " threw in " + name, e.getCause());
        } catch (ReflectiveOperationException e) {
            throw new IllegalStateException(e);
        }
    }
}
