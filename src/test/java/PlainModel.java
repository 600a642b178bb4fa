import java.math.BigInteger;
import java.util.ArrayDeque;
import java.util.ArrayList;
import java.util.Arrays;
import java.util.List;
import java.util.NoSuchElementException;
import java.util.TreeSet;
import java.util.regex.Matcher;
import java.util.regex.Pattern;

/**
 * The document once more, written as plainly as can be and without regard to time or room: all sets, all
 * orders and all rows are gone through. RandomRunsTest compares the program with it.
 */
final class PlainModel {
    static final int NONE = -1;

    /** Where all are. */
    static final class World {
        int engine;
        int now;
        List<Integer> train = new ArrayList<>();
        List<Integer> standsAt = new ArrayList<>();
        List<Integer> seats = new ArrayList<>();

        World copy() {
            World w = new World();
            w.engine = engine;
            w.now = now;
            w.train = new ArrayList<>(train);
            w.standsAt = new ArrayList<>(standsAt);
            w.seats = new ArrayList<>(seats);
            return w;
        }

        int haltOf(int coach) {
            return train.contains(coach) ? engine : standsAt.get(coach);
        }

        int out() {
            int bits = 0;
            for (int i = 0; i < seats.size(); i++) {
                bits |= seats.get(i) == NONE ? 1 << i : 0;
            }
            return bits;
        }
    }

    String text = "";
    int[][] exits = {{NONE, NONE}};
    int[][] minutes = {{0, 0}};
    String rule = "r";
    World world = new World();
    List<Integer> wants = new ArrayList<>();
    List<Integer> ranks = new ArrayList<>();
    List<int[]> tellings = new ArrayList<>();
    ArrayDeque<World> undoable = new ArrayDeque<>();
    World[] kept = new World[3];
    List<Long> row = new ArrayList<>();

    private void tell(long... numbers) {
        row = new ArrayList<>();
        for (long n : numbers) {
            row.add(n);
        }
    }

    // ---- texts

    int sign(int v) {
        if (text.length() > 76) {
            return NONE;
        }
        for (int i = 3; i >= 0; i--) {
            text += (char) (v >>> (8 * i) & 0xff);
        }
        return text.length();
    }

    boolean end(int n) {
        if (n < 0 || n > text.length()) {
            return false;
        }
        text = text.substring(0, n);
        return true;
    }

    private String takeText() {
        String taken = text;
        text = "";
        return taken;
    }

    /** Where the first sign stands that can't, in a text of a pattern, or NONE. */
    private static int fault(String pattern, String t, int limit) {
        String head = t.substring(0, Math.min(limit, t.length()));
        Pattern compiled = Pattern.compile(pattern, Pattern.DOTALL);
        for (int p = 1; p <= head.length(); p++) {
            Matcher m = compiled.matcher(head.substring(0, p));
            if (!m.matches() && !m.hitEnd()) {
                return p - 1;
            }
        }
        if (t.length() > limit) {
            return limit;
        }
        return compiled.matcher(t).matches() ? NONE : t.length();
    }

    int net() {
        String t = takeText();
        char first = t.isEmpty() ? '0' : t.charAt(0);
        int n = first >= '1' && first <= '9' ? first - '0' : 1;
        String exit = "(-|[a-" + (char) ('a' + n - 1) + "][1-9])";
        String pattern = "[1-9]:" + exit + exit + "(;" + exit + exit + "){" + (n - 1) + "}";
        int fault = fault(pattern, t, 46);
        if (fault != NONE) {
            return -1 - fault;
        }
        exits = new int[n][2];
        minutes = new int[n][2];
        int p = 2;
        for (int h = 0; h < n; h++) {
            for (int e = 0; e < 2; e++) {
                boolean none = t.charAt(p) == '-';
                exits[h][e] = none ? NONE : t.charAt(p) - 'a';
                minutes[h][e] = none ? 0 : t.charAt(p + 1) - '0';
                p += none ? 1 : 2;
            }
            p++;
        }
        world = new World();
        wants.clear();
        ranks.clear();
        tellings.clear();
        cameNew();
        return n;
    }

    private void cameNew() {
        undoable.clear();
        Arrays.fill(kept, null);
    }

    int coaches() {
        String t = takeText();
        int room = 6 - world.standsAt.size();
        char last = (char) ('a' + exits.length - 1);
        int fault = fault("[+a-" + last + "]{0," + room + "}", t, 80);
        if (fault != NONE) {
            return -1 - fault;
        }
        for (char c : t.toCharArray()) {
            if (c == '+') {
                world.train.add(world.standsAt.size());
            }
            world.standsAt.add(c == '+' ? NONE : c - 'a');
        }
        if (!t.isEmpty()) {
            cameNew();
        }
        return t.length();
    }

    int passengers() {
        String t = takeText();
        if (t.isEmpty()) {
            return 0;
        }
        int coaches = world.standsAt.size();
        int room = 12 - wants.size();
        if (coaches == 0 || room == 0) {
            return -1;
        }
        for (int p = 0; p < Math.min(47, t.length()); p++) {
            char c = t.charAt(p);
            boolean fits = p % 4 == 0 ? p / 4 < room && c >= '0' && c < '0' + coaches
                    : p % 4 == 1 ? c >= 'a' && c < 'a' + exits.length
                    : p % 4 == 2 ? c >= '1' && c <= '9' : c == ';';
            if (!fits) {
                return -1 - p;
            }
        }
        if (t.length() > 47 || t.length() % 4 != 3) {
            return -1 - Math.min(47, t.length());
        }
        String[] lines = t.split(";");
        for (String l : lines) {
            world.seats.add(l.charAt(0) - '0');
            wants.add(l.charAt(1) - 'a');
            ranks.add(l.charAt(2) - '0');
        }
        alight(world);
        cameNew();
        return lines.length;
    }

    /** By an automaton that holds, for each open bracket, whether it has been compared in. */
    static int ruleFault(String t) {
        String head = t.substring(0, Math.min(40, t.length()));
        ArrayDeque<Boolean> compared = new ArrayDeque<>();
        compared.push(false);
        boolean operandDue = true;
        int digits = 0;
        for (int p = 0; p < head.length(); p++) {
            char c = head.charAt(p);
            boolean isDigit = c >= '0' && c <= '9';
            if (operandDue) {
                digits = isDigit ? 1 : 0;
                if (c == '-') {
                    continue;
                } else if (c == '(' && compared.size() <= 4) {
                    compared.push(false);
                } else if (isDigit || "rckdpn".indexOf(c) >= 0) {
                    operandDue = false;
                } else {
                    return p;
                }
            } else if (isDigit && digits > 0 && digits < 3) {
                digits++;
            } else if (c == ')' && compared.size() > 1) {
                compared.pop();
                digits = 0;
            } else if ("+-*/".indexOf(c) >= 0) {
                operandDue = true;
            } else if ("<>=".indexOf(c) >= 0 && !compared.peek()) {
                compared.pop();
                compared.push(true);
                operandDue = true;
            } else {
                return p;
            }
        }
        if (t.length() > 40) {
            return 40;
        }
        return operandDue || compared.size() > 1 ? t.length() : NONE;
    }

    int rule() {
        String t = takeText();
        int fault = t.isEmpty() ? NONE : ruleFault(t);
        if (fault != NONE) {
            return -1 - fault;
        }
        rule = t.isEmpty() ? "r" : t;
        return 0;
    }

    /** Splits at the operator that binds least and stands last; its own brackets are taken off first. */
    static int value(String t, int[] things) {
        String[] groups = {"<>=", "+-", "*/"};
        for (String group : groups) {
            int depth = 0;
            for (int p = t.length() - 1; p > 0; p--) {
                char c = t.charAt(p);
                depth += c == ')' ? 1 : c == '(' ? -1 : 0;
                boolean binary = "+-*/<>=(".indexOf(t.charAt(p - 1)) < 0;
                if (depth == 0 && binary && group.indexOf(c) >= 0) {
                    int a = value(t.substring(0, p), things);
                    int b = value(t.substring(p + 1), things);
                    return c == '+' ? a + b : c == '-' ? a - b : c == '*' ? a * b : c == '/' ? (b == 0 ? 0 : a / b)
                            : c == '<' ? (a < b ? 1 : 0) : c == '>' ? (a > b ? 1 : 0) : (a == b ? 1 : 0);
                }
            }
        }
        if (t.charAt(0) == '-') {
            return -value(t.substring(1), things);
        }
        if (t.charAt(0) == '(') {
            return value(t.substring(1, t.length() - 1), things);
        }
        int thing = "rckdpn".indexOf(t.charAt(0));
        return thing >= 0 ? things[thing] : Integer.parseInt(t);
    }

    // ---- ways

    /** All ways without a halt twice, by going on from the last halt. */
    private void waysFrom(List<Integer> soFar, int length, int to, int[][] net, List<List<Integer>> found, List<Integer> lengths) {
        int at = soFar.get(soFar.size() - 1);
        if (at == to) {
            found.add(new ArrayList<>(soFar));
            lengths.add(length);
            return;
        }
        for (int e = 0; e < 2; e++) {
            int next = net[at][e];
            if (next != NONE && !soFar.contains(next)) {
                soFar.add(next);
                waysFrom(soFar, length + minutes[at][e], to, net, found, lengths);
                soFar.remove(soFar.size() - 1);
            }
        }
    }

    private int[][] measured;
    private int[][] shortestOf;

    /** Minutes of the shortest way, or NONE; found once for each net, since it takes long. */
    private int shortest(int from, int to, int[][] net) {
        if (measured != net) {
            measured = net;
            shortestOf = new int[net.length][net.length];
            for (int a = 0; a < net.length; a++) {
                for (int b = 0; b < net.length; b++) {
                    List<Integer> lengths = new ArrayList<>();
                    waysFrom(new ArrayList<>(List.of(a)), 0, b, net, new ArrayList<>(), lengths);
                    shortestOf[a][b] = lengths.stream().mapToInt(x -> x).min().orElse(NONE);
                }
            }
        }
        return shortestOf[from][to];
    }

    int way(int from, int to) {
        if (from < 0 || to < 0 || from >= exits.length || to >= exits.length) {
            return NONE;
        }
        List<List<Integer>> found = new ArrayList<>();
        List<Integer> lengths = new ArrayList<>();
        waysFrom(new ArrayList<>(List.of(from)), 0, to, exits, found, lengths);
        int best = shortest(from, to, exits);
        if (best == NONE) {
            return -2;
        }
        List<Integer> least = null;
        for (int i = 0; i < found.size(); i++) {
            if (lengths.get(i) == best && (least == null || isLess(found.get(i), least))) {
                least = found.get(i);
            }
        }
        tell(least.stream().mapToLong(x -> x).toArray());
        return best;
    }

    private static boolean isLess(List<Integer> a, List<Integer> b) {
        for (int i = 0; i < Math.min(a.size(), b.size()); i++) {
            if (!a.get(i).equals(b.get(i))) {
                return a.get(i) < b.get(i);
            }
        }
        return a.size() < b.size();
    }

    // ---- votes

    int votesOf(World w, int passenger, String law, int[][] net) {
        int coach = w.seats.get(passenger);
        if (coach == NONE) {
            return 0;
        }
        int d = shortest(w.haltOf(coach), wants.get(passenger), net);
        int k = 0;
        for (int s : w.seats) {
            k += s == coach ? 1 : 0;
        }
        int place = w.train.indexOf(coach);
        int[] things = {ranks.get(passenger), coach, k, d == NONE ? 99 : d, place == NONE ? 9 : place, w.now % 60};
        return Math.min(99, Math.max(0, value(law, things)));
    }

    int wishOf(World w, int passenger, int[][] net) {
        int coach = w.seats.get(passenger);
        if (coach == NONE) {
            return NONE;
        }
        int from = w.haltOf(coach);
        int want = wants.get(passenger);
        int d = shortest(from, want, net);
        for (int e = 0; e < 2 && d > 0; e++) {
            int rest = net[from][e] == NONE ? NONE : shortest(net[from][e], want, net);
            if (rest != NONE && minutes[from][e] + rest == d) {
                return e;
            }
        }
        return 2;
    }

    private int[] sums(World w, List<Integer> coaches, String law, int[][] net) {
        int[] sums = new int[3];
        for (int i = 0; i < w.seats.size(); i++) {
            if (coaches.contains(w.seats.get(i))) {
                sums[wishOf(w, i, net)] += votesOf(w, i, law, net);
            }
        }
        return sums;
    }

    private static int most(int[] sums) {
        int best = 2;
        for (int i = 2; i >= 0; i--) {
            if (sums[i] >= sums[best] && sums[i] > 0) {
                best = i;
            }
        }
        return best;
    }

    private int coachVote(World w, int coach, String law, int[][] net) {
        return most(sums(w, List.of(coach), law, net));
    }

    /** The course, coaches left, passengers out, minutes. */
    private int[] doRun(World w, String law, int[][] net, boolean heads) {
        int[] sums = new int[3];
        if (heads) {
            for (int c : w.train) {
                sums[coachVote(w, c, law, net)]++;
            }
        } else {
            sums = sums(w, w.train, law, net);
        }
        int course = most(sums);
        if (course == 2 || net[w.engine][course] == NONE) {
            w.now++;
            return new int[] {2, 0, 0, 1};
        }
        int along = 0;
        while (along < w.train.size() && coachVote(w, w.train.get(along), law, net) == course) {
            along++;
        }
        int time = minutes[w.engine][course];
        int left = depart(w, net[w.engine][course], time, along);
        return new int[] {course, left, alight(w), time};
    }

    private int depart(World w, int to, int time, int along) {
        int left = 0;
        while (w.train.size() > along) {
            int c = w.train.remove(w.train.size() - 1);
            w.standsAt.set(c, w.engine);
            left |= 1 << c;
        }
        w.engine = to;
        w.now += time;
        return left;
    }

    private int alight(World w) {
        int before = w.out();
        for (int i = 0; i < w.seats.size(); i++) {
            if (w.seats.get(i) != NONE && w.haltOf(w.seats.get(i)) == wants.get(i)) {
                w.seats.set(i, NONE);
            }
        }
        return w.out() & ~before;
    }

    // ---- asking

    private int bits(List<Integer> list) {
        int bits = 0;
        for (int x : list) {
            bits |= 1 << x;
        }
        return bits;
    }

    int halt(int h, int what) {
        if (h < 0 || h >= exits.length || what < 0 || what > 5) {
            throw new NoSuchElementException();
        }
        if (what < 2) {
            return exits[h][what];
        }
        if (what < 4) {
            return minutes[h][what - 2];
        }
        if (what == 5) {
            return world.engine == h ? 1 : 0;
        }
        int found = 0;
        for (int c = 0; c < world.standsAt.size(); c++) {
            found |= !world.train.contains(c) && world.standsAt.get(c) == h ? 1 << c : 0;
        }
        return found;
    }

    int coach(int c, int what) {
        if (c < 0 || c >= world.standsAt.size() || what < 0 || what > 6) {
            throw new NoSuchElementException();
        }
        int[] sums = sums(world, List.of(c), rule, exits);
        switch (what) {
            case 0:
                return world.haltOf(c);
            case 1:
                return world.train.indexOf(c);
            case 2:
                return inside(c);
            case 3:
                return most(sums);
            default:
                return sums[what - 4];
        }
    }

    private int inside(int c) {
        int found = 0;
        for (int i = 0; i < world.seats.size(); i++) {
            found |= world.seats.get(i) == c ? 1 << i : 0;
        }
        return found;
    }

    int passenger(int i, int what) {
        if (!isPassenger(i) || what < 0 || what > 4) {
            throw new NoSuchElementException();
        }
        int[] all = {world.seats.get(i), wants.get(i), ranks.get(i), votesOf(world, i, rule, exits), wishOf(world, i, exits)};
        return all[what];
    }

    private boolean isPassenger(int i) {
        return i >= 0 && i < wants.size();
    }

    private boolean isCoach(int c) {
        return c >= 0 && c < world.standsAt.size();
    }

    private boolean isHalt(int h) {
        return h >= 0 && h < exits.length;
    }

    int sheet(int kind, int n, int f, int step) {
        if (kind < 0 || kind > 3 || n > 12) {
            return NONE;
        }
        if (kind == 3) {
            ranks.replaceAll(r -> 1);
            return -3;
        }
        if (n < 0) {
            return -2;
        }
        int value = f;
        int sum = 0;
        for (int i = 0; i < ranks.size(); i++) {
            int entry = kind == 0 ? (byte) value : kind == 1 ? (short) value : value;
            int rank = i >= n ? 1 : entry < 1 ? 1 : entry > 9 ? 9 : entry;
            ranks.set(i, rank);
            sum += rank;
            value += step;
        }
        return sum;
    }

    // ---- acts

    private void push(World earlier) {
        undoable.addLast(earlier);
        if (undoable.size() > 15) {
            undoable.removeFirst();
        }
    }

    int run() {
        push(world.copy());
        int[] r = doRun(world, rule, exits, false);
        tell(r[1], r[2], r[3]);
        return r[0];
    }

    int go(int exit, int n) {
        if (exit < 0 || exit > 1 || n < 0 || n > world.train.size()) {
            return NONE;
        }
        if (exits[world.engine][exit] == NONE) {
            return -2;
        }
        push(world.copy());
        int time = minutes[world.engine][exit];
        depart(world, exits[world.engine][exit], time, n);
        tell(alight(world));
        return time;
    }

    private static int join(World w) {
        int joined = 0;
        for (int c = 0; c < w.standsAt.size(); c++) {
            if (!w.train.contains(c) && w.standsAt.get(c) == w.engine) {
                w.train.add(c);
                joined++;
            }
        }
        return joined;
    }

    int couple() {
        World earlier = world.copy();
        int joined = join(world);
        if (joined == 0) {
            return -2;
        }
        push(earlier);
        return joined;
    }

    int cut(int n) {
        if (n < 1 || n > world.train.size()) {
            return NONE;
        }
        push(world.copy());
        depart(world, world.engine, 0, world.train.size() - n);
        return world.train.size();
    }

    int walk(int i, int c) {
        if (!isPassenger(i) || !isCoach(c)) {
            return NONE;
        }
        int from = world.seats.get(i);
        if (from == NONE) {
            return -2;
        }
        int a = world.train.indexOf(from);
        int b = world.train.indexOf(c);
        if (a < 0 || b < 0 || a - b != 1 && b - a != 1) {
            return -3;
        }
        push(world.copy());
        world.seats.set(i, c);
        world.now++;
        return from;
    }

    int stand(int n) {
        if (n < 0 || n > 99) {
            return NONE;
        }
        push(world.copy());
        world.now += n;
        return world.now;
    }

    int night() {
        String t = takeText();
        int fault = fault("(r|c|x[0-9]|s[0-9]|g[01][0-9]|w[a-l][0-9])*", t, 60);
        if (fault != NONE) {
            return -1 - fault;
        }
        World earlier = world.copy();
        ArrayDeque<World> pastBefore = new ArrayDeque<>(undoable);
        int done = 0;
        int refused = 0;
        Matcher acts = Pattern.compile("r|c|x[0-9]|s[0-9]|g[01][0-9]|w[a-l][0-9]").matcher(t);
        while (refused == 0 && acts.find()) {
            if (doAct(acts.group()) < 0) {
                refused = 1;
            } else {
                done++;
            }
        }
        undoable = pastBefore;
        if (done > 0) {
            push(earlier);
        }
        tell(refused, Integer.bitCount(world.out()) - Integer.bitCount(earlier.out()));
        return done;
    }

    private int doAct(String act) {
        int a = act.length() > 1 ? act.charAt(1) - '0' : 0;
        int b = act.length() > 2 ? act.charAt(2) - '0' : 0;
        switch (act.charAt(0)) {
            case 'r':
                return run();
            case 'c':
                return couple();
            case 'x':
                return cut(a);
            case 's':
                return stand(a);
            case 'g':
                return go(a, b);
            default:
                return walk(act.charAt(1) - 'a', b);
        }
    }

    int undo() {
        if (undoable.isEmpty()) {
            return NONE;
        }
        world = undoable.removeLast();
        return undoable.size();
    }

    // ---- looking ahead

    private int more(World later) {
        return Integer.bitCount(later.out()) - Integer.bitCount(world.out());
    }

    private World later(World from, int n, String law, int[][] net, boolean heads) {
        World w = from.copy();
        for (int i = 0; i < n; i++) {
            doRun(w, law, net, heads);
        }
        return w;
    }

    int course() {
        int[] sums = sums(world, world.train, rule, exits);
        int[] r = doRun(world.copy(), rule, exits, false);
        tell(r[1], sums[0], sums[1], sums[2]);
        return r[0];
    }

    int ahead(int n) {
        if (n < 0 || n > 30) {
            return NONE;
        }
        World w = later(world, n, rule, exits, false);
        tell(w.engine, w.now, bits(w.train));
        return more(w);
    }

    private int arrivesFrom(World start, int i) {
        World w = start.copy();
        for (int runs = 0; runs <= 30; runs++) {
            if (w.seats.get(i) == NONE) {
                return runs;
            }
            doRun(w, rule, exits, false);
        }
        return NONE;
    }

    int arrives(int i) {
        if (!isPassenger(i)) {
            return NONE;
        }
        int runs = arrivesFrom(world, i);
        if (runs == NONE) {
            return -2;
        }
        tell(later(world, runs, rule, exits, false).now);
        return runs;
    }

    /** The vote of those in a set, where those in another one are for a wish. */
    private int voteOfSet(int set, int won, int wish) {
        int[] sums = new int[3];
        for (int i = 0; i < wants.size(); i++) {
            if ((set >> i & 1) == 1) {
                int w = (won >> i & 1) == 1 ? wish : wishOf(world, i, exits);
                sums[w] += votesOf(world, i, rule, exits);
            }
        }
        return most(sums);
    }

    int tips(int c) {
        if (!isCoach(c)) {
            return NONE;
        }
        int set = inside(c);
        int found = 0;
        for (int i = 0; i < wants.size(); i++) {
            for (int wish = 0; wish < 3 && (set >> i & 1) == 1; wish++) {
                found |= voteOfSet(set, 1 << i, wish) != voteOfSet(set, 0, 0) ? 1 << i : 0;
            }
        }
        tell(Integer.bitCount(found));
        return found;
    }

    private boolean rides(World w, int i) {
        return w.train.contains(w.seats.get(i));
    }

    int power(int i) {
        if (!isPassenger(i)) {
            return NONE;
        }
        if (!rides(world, i)) {
            return -2;
        }
        int[] votes = new int[wants.size()];
        int riding = 0;
        for (int j = 0; j < votes.length; j++) {
            votes[j] = rides(world, j) ? votesOf(world, j, rule, exits) : 0;
            riding |= rides(world, j) ? 1 << j : 0;
        }
        int found = 0;
        int all = 0;
        for (int set = 0; set < 1 << votes.length; set++) {
            if ((set & ~riding) == 0 && (set >> i & 1) == 1) {
                all++;
                found += leftWins(votes, set) && !leftWins(votes, set & ~(1 << i)) ? 1 : 0;
            }
        }
        fraction(BigInteger.valueOf(found), BigInteger.valueOf(all));
        return found;
    }

    private static boolean leftWins(int[] votes, int set) {
        int left = 0;
        int right = 0;
        for (int j = 0; j < votes.length; j++) {
            if ((set >> j & 1) == 1) {
                left += votes[j];
            } else {
                right += votes[j];
            }
        }
        return left >= right;
    }

    private void fraction(BigInteger upper, BigInteger lower) {
        BigInteger shared = upper.gcd(lower);
        tell(upper.divide(shared).longValueExact(), lower.divide(shared).longValueExact());
    }

    int lobby(int c, int wish) {
        if (!isCoach(c) || wish < 0 || wish > 2) {
            return NONE;
        }
        int[] votes = new int[wants.size()];
        int[] wishes = new int[wants.size()];
        for (int i = 0; i < votes.length; i++) {
            votes[i] = votesOf(world, i, rule, exits);
            wishes[i] = wishOf(world, i, exits);
        }
        int all = inside(c);
        for (int size = 0; size <= wants.size(); size++) {
            for (int set = 0; set < 1 << wants.size(); set++) {
                if (Integer.bitCount(set) == size && (set & ~all) == 0) {
                    int[] sums = new int[3];
                    for (int i = 0; i < votes.length; i++) {
                        if ((all >> i & 1) == 1) {
                            sums[(set >> i & 1) == 1 ? wish : wishes[i]] += votes[i];
                        }
                    }
                    if (most(sums) == wish) {
                        tell(set);
                        return size;
                    }
                }
            }
        }
        return -2;
    }

    // ---- seats, exits

    int seat(int i) {
        if (!isPassenger(i)) {
            return NONE;
        }
        if (!rides(world, i)) {
            return -3;
        }
        int best = -2;
        int fewest = 31;
        for (int c : new TreeSet<>(world.train)) {
            World w = world.copy();
            w.seats.set(i, c);
            int runs = arrivesFrom(w, i);
            if (runs != NONE && runs < fewest) {
                fewest = runs;
                best = c;
            }
        }
        if (best >= 0) {
            tell(fewest);
        }
        return best;
    }

    int reseat(int n) {
        if (n < 1 || n > 12) {
            return NONE;
        }
        int most = more(later(world, n, rule, exits, false));
        int who = NONE;
        int where = NONE;
        for (int i = 0; i < wants.size(); i++) {
            for (int c : new TreeSet<>(world.train)) {
                if (rides(world, i) && world.seats.get(i) != c) {
                    World w = world.copy();
                    w.seats.set(i, c);
                    int more = more(later(w, n, rule, exits, false));
                    if (more > most) {
                        most = more;
                        who = i;
                        where = c;
                    }
                }
            }
        }
        tell(who, where);
        return most;
    }

    int close(int n) {
        if (n < 1 || n > 12) {
            return NONE;
        }
        int most = more(later(world, n, rule, exits, false));
        int best = -3;
        for (int h = 0; h < exits.length; h++) {
            for (int e = 0; e < 2; e++) {
                int[][] closed = new int[exits.length][];
                for (int j = 0; j < exits.length; j++) {
                    closed[j] = exits[j].clone();
                }
                closed[h][e] = NONE;
                int more = more(later(world, n, rule, closed, false));
                if (more > most) {
                    most = more;
                    best = 2 * h + e;
                }
            }
        }
        tell(most);
        return best;
    }

    int fetch(int last) {
        if (!isHalt(last)) {
            return NONE;
        }
        TreeSet<Integer> goals = new TreeSet<>();
        for (int c = 0; c < world.standsAt.size(); c++) {
            if (!world.train.contains(c)) {
                goals.add(world.standsAt.get(c));
            }
        }
        List<List<Integer>> orders = new ArrayList<>();
        orders(new ArrayList<>(), goals, orders);
        int best = NONE;
        for (List<Integer> order : orders) {
            int time = 0;
            int at = world.engine;
            List<Integer> stops = new ArrayList<>(order);
            stops.add(last);
            for (int stop : stops) {
                int d = shortest(at, stop, exits);
                time = d == NONE || time == NONE ? NONE : time + d;
                at = stop;
            }
            // Orders come from the least on.
            if (time != NONE && (best == NONE || time < best)) {
                best = time;
                tell(order.stream().mapToLong(x -> x).toArray());
            }
        }
        return best == NONE ? -2 : best;
    }

    private static void orders(List<Integer> soFar, TreeSet<Integer> rest, List<List<Integer>> found) {
        if (rest.isEmpty()) {
            found.add(new ArrayList<>(soFar));
        }
        for (int x : rest) {
            TreeSet<Integer> others = new TreeSet<>(rest);
            others.remove(x);
            soFar.add(x);
            orders(soFar, others, found);
            soFar.remove(soFar.size() - 1);
        }
    }

    // ---- laws

    int law() {
        String t = takeText();
        int fault = t.isEmpty() ? NONE : ruleFault(t);
        if (fault != NONE) {
            return -10000 - fault;
        }
        int byIt = more(later(world, 10, t.isEmpty() ? "r" : t, exits, false));
        int byRule = more(later(world, 10, rule, exits, false));
        tell(byIt, byRule);
        return byIt - byRule;
    }

    int heads(int n) {
        if (n < 1 || n > 30) {
            return NONE;
        }
        World w = later(world, n, rule, exits, true);
        tell(w.engine);
        return more(w);
    }

    // ---- where it was

    int seen(int k, int h, int is) {
        if (k < 0 || k > 12 || !isHalt(h) || is < 0 || is > 1 || tellings.size() == 12) {
            return NONE;
        }
        tellings.add(new int[] {k, h, is});
        return tellings.size();
    }

    int forget() {
        int n = tellings.size();
        tellings.clear();
        return n;
    }

    private int lastTold() {
        return tellings.stream().mapToInt(t -> t[0]).max().orElse(NONE);
    }

    /** All rows that fit, the least first; each with the halts behind 0, 1, .. steps. */
    private void fitting(List<int[]> rows, List<int[]> halts) {
        int steps = lastTold();
        for (int r = 0; r < 1 << steps; r++) {
            int[] row = new int[steps];
            int[] at = new int[steps + 1];
            at[0] = world.engine;
            boolean fits = true;
            for (int k = 0; k < steps && fits; k++) {
                row[k] = r >> (steps - 1 - k) & 1;
                at[k + 1] = exits[at[k]][row[k]];
                fits = at[k + 1] != NONE;
            }
            for (int[] t : tellings) {
                fits = fits && (at[t[0]] == t[1]) == (t[2] == 1);
            }
            if (fits) {
                rows.add(row);
                halts.add(at);
            }
        }
    }

    int rows() {
        if (tellings.isEmpty()) {
            return NONE;
        }
        List<int[]> rows = new ArrayList<>();
        fitting(rows, new ArrayList<>());
        tell();
        if (!rows.isEmpty()) {
            tell(Arrays.stream(rows.get(0)).mapToLong(x -> x).toArray());
        }
        return rows.size();
    }

    private int haltsBehind(int k) {
        List<int[]> halts = new ArrayList<>();
        fitting(new ArrayList<>(), halts);
        int found = 0;
        for (int[] at : halts) {
            found |= 1 << at[k];
        }
        return found;
    }

    int been(int k) {
        if (tellings.isEmpty() || k < 0 || k > lastTold()) {
            return NONE;
        }
        int found = haltsBehind(k);
        tell(Integer.bitCount(found));
        return found;
    }

    int ask() {
        int best = -2;
        int most = 0;
        for (int k = 0; k <= lastTold(); k++) {
            int n = Integer.bitCount(haltsBehind(k));
            if (n > most) {
                most = n;
                best = k;
            }
        }
        if (best >= 0) {
            tell(most);
        }
        return best;
    }

    // ---- chance, bargains, nights

    int odds(int c, int v, int p) {
        if (!isCoach(c) || v < 0 || v > 2 || p < 0 || p > 10) {
            return NONE;
        }
        int all = inside(c);
        if (Integer.bitCount(all) > 8) {
            return -2;
        }
        BigInteger sum = BigInteger.ZERO;
        for (int set = 0; set < 1 << wants.size(); set++) {
            if ((set & ~all) == 0 && voteOfSet(set, 0, 0) == v) {
                BigInteger there = BigInteger.valueOf(10 - p).pow(Integer.bitCount(set));
                BigInteger away = BigInteger.valueOf(p).pow(Integer.bitCount(all & ~set));
                sum = sum.add(there.multiply(away));
            }
        }
        fraction(sum, BigInteger.TEN.pow(Integer.bitCount(all)));
        return 0;
    }

    private static int gets(int own, int other, int t) {
        return own + other <= t ? own : 0;
    }

    int bargain(int t) {
        if (t < 1 || t > 20) {
            return NONE;
        }
        int found = 0;
        for (int x = 0; x <= t; x++) {
            for (int y = 0; y <= t; y++) {
                boolean rests = true;
                for (int z = 0; z <= t; z++) {
                    rests = rests && gets(z, y, t) <= gets(x, y, t) && gets(z, x, t) <= gets(y, x, t);
                }
                if (rests && found++ == 0) {
                    tell(x, y);
                }
            }
        }
        return found;
    }

    private long drawnState;

    private int draw(int n) {
        drawnState = (drawnState * 1103515245L + 12345L) & 0xffffffffL;
        return (int) (drawnState / 65536 % n);
    }

    int nights(int seed, int n) {
        if (n < 1 || n > 60) {
            return NONE;
        }
        drawnState = seed & 0xffffffffL;
        World w = world.copy();
        for (int i = 0; i < n; i++) {
            int lot = draw(5);
            if (lot <= 2) {
                doRun(w, rule, exits, false);
            } else if (lot == 3) {
                join(w);
            } else if (!wants.isEmpty()) {
                int who = draw(wants.size());
                int c = draw(w.standsAt.size());
                if (rides(w, who) && w.train.contains(c)) {
                    w.seats.set(who, c);
                }
            }
        }
        tell(w.now, w.engine);
        return more(w);
    }

    // ---- kept

    boolean keep(int i) {
        if (i < 0 || i > 2) {
            return false;
        }
        kept[i] = world.copy();
        return true;
    }

    boolean again(int i) {
        if (i < 0 || i > 2 || kept[i] == null) {
            return false;
        }
        world = kept[i].copy();
        undoable.clear();
        return true;
    }

    int count(int what) {
        int stand = 0;
        for (int c = 0; c < world.standsAt.size(); c++) {
            stand |= world.train.contains(c) ? 0 : 1 << c;
        }
        int[] all = {exits.length, world.standsAt.size(), wants.size(), world.now, world.engine, bits(world.train),
            stand, world.out(), tellings.size(), undoable.size(), row.size(), text.length()};
        return what < 0 || what > 11 ? -100 : all[what];
    }

    long row(int i) {
        if (i < 0 || i >= row.size()) {
            throw new NoSuchElementException();
        }
        return row.get(i);
    }
}
