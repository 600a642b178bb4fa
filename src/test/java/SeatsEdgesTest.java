import java.io.IOException;
import java.util.ArrayList;
import java.util.List;
import java.util.Random;

/** The edges that promises 27 to 32 name: seat, reseat, close, fetch, law, heads. */
public final class SeatsEdgesTest {
    private static final String FORK = "4:b1c1;--;--;--";
    private static final String RING = "3:b2-;c3-;a4-";
    private static final String STEPS = "9:b1-;c1-;d1-;e1-;f1-;g1-;h1-;i1-;a1-";
    private static final int[] WILD = {Integer.MIN_VALUE, -2, -1, Integer.MAX_VALUE};

    public static void main(String[] args) throws IOException {
        Edges edges = new Edges("SeatsEdgesTest");
        seats(edges);
        reseats(edges);
        closes(edges);
        fetches(edges);
        laws(edges);
        heads(edges);
        edges.finish(27, 32);
    }

    private static CoachesVote ruled(CoachesVote x, String rule) {
        Check.same("rule " + rule, Check.say(x, rule).rule(), 0);
        return x;
    }

    // ---- promise 27

    private static void seats(Edges edges) {
        edges.test(27, "The COACH of THE TRAIN in which a PASSENGER of THE TRAIN should sit now (wherever it is; no NOW goes by)",
                SeatsEdgesTest::whereverItIs)
            .test(27, "so that it is OUT in the fewest RUNS (30 at most)", SeatsEdgesTest::fewestRuns)
            .test(27, "of equal ones the one with the least number: it; the ROW: in how many", SeatsEdgesTest::leastNumber)
            .test(27, "-2: in none it is in 30", SeatsEdgesTest::nowhere)
            .test(27, "-3: it is not in THE TRAIN", SeatsEdgesTest::notInTheTrain)
            .test(27, "NONE: none such", SeatsEdgesTest::seatNoneSuch);
    }

    private static void whereverItIs() {
        // Empty coaches vote to stay, so that it must sit in the first one, five coaches away.
        CoachesVote x = Check.told(FORK, "++++++", "5b1");
        Check.same("where it sits it never is there", x.arrives(0), -2);
        Check.same("the first one", x.seat(0), 0);
        Check.row("the first one", x, 1);
        // The first of the train is coach 2; coach 0 stands, though it has the least number.
        CoachesVote y = Check.told(FORK, "aa+", "2b1");
        Check.same("one of the train", y.seat(0), 2);
        Check.row("one of the train", y, 1);
        // It has votes at NOW 0 alone: no time may go by.
        CoachesVote z = ruled(Check.told(FORK, "++", "1b1"), "n<1");
        Check.same("at once", z.seat(0), 0);
        Check.row("at once", z, 1);
        z.walk(0, 0);
        Check.same("behind a walk it is too late", z.arrives(0), -2);
    }

    private static CoachesVote late(int minutes) {
        return ruled(Check.told(RING, "++", "1b5"), "n>" + (minutes - 1));
    }

    private static void fewestRuns() {
        for (int minutes = 0; minutes <= 29; minutes++) {
            CoachesVote x = late(minutes);
            Check.same("behind " + minutes, x.seat(0), 0);
            Check.row("behind " + minutes, x, minutes + 1);
        }
        CoachesVote right = Check.told("9:-b1;-c1;-d1;-e1;-f1;-g1;-h1;-i1;--", "+", "0i1");
        Check.same("by right exits", right.seat(0), 0);
        Check.row("by right exits", right, 8);
        // With two in coach 1 both have votes at once; in coach 0 it has one from minute 1 on.
        CoachesVote y = Check.told(RING, "a+", "0b1;1b1");
        y.couple();
        ruled(y, "(c=1)*(k>1)+(n>0)");
        Check.same("where it sits, in two", y.arrives(0), 2);
        Check.same("the greater number, in fewer", y.seat(0), 1);
        Check.row("the greater number, in fewer", y, 1);
    }

    private static void leastNumber() {
        // All go along, wherever it sits.
        CoachesVote x = Check.told(RING, "a++", "0b3;1b2;2b2;2b1");
        x.couple();
        Check.same("the last of the train", x.coach(0, 1), 2);
        Check.same("the least number", x.seat(3), 0);
        Check.row("in one", x, 1);
        Check.same("the only coach", Check.told(RING, "+", "0b1").seat(0), 0);
    }

    private static void nowhere() {
        Looks.State tooLate = () -> {
            CoachesVote x = late(30);
            x.way(0, 1);
            return x;
        };
        Looks.refused("in the 31st", tooLate, x -> x.seat(0), -2);
        Check.same("in the 30th", late(29).seat(0), 0);
        Looks.refused("no way", () -> Check.told(FORK, "++", "0d1"), x -> x.seat(0), -2);
    }

    private static void notInTheTrain() {
        Looks.refused("out", Looks::busy, x -> x.seat(5), -3);
        Looks.refused("in one that stands", Looks::busy, x -> x.seat(4), -3);
        Looks.refused("in one that stands where the engine is", () -> Check.told(FORK, "a+", "0b1"), x -> x.seat(0), -3);
    }

    private static void seatNoneSuch() {
        for (int wild : WILD) {
            Looks.refused("passenger " + wild, Looks::busy, x -> x.seat(wild), -1);
        }
        Looks.refused("passenger 7", Looks::busy, x -> x.seat(7), -1);
        Check.same("the last", Looks.busy().seat(6), 0);
        Looks.refused("0 of none", CoachesVote::new, x -> x.seat(0), -1);
    }

    // ---- promise 28

    private static void reseats(Edges edges) {
        edges.test(28, "The one PASSENGER of THE TRAIN and COACH of it (other than its own)", SeatsEdgesTest::ofTheTrain)
            .test(28, "the most are OUT in n RUNS (1 .. 12)", SeatsEdgesTest::reseatRuns)
            .test(28, "how many are OUT more than now (as all sit, if none makes more than that)", SeatsEdgesTest::noneMakesMore)
            .test(28, "of as good ones the least row (NONE, NONE, if none makes more)", SeatsEdgesTest::reseatLikeOnes)
            .test(28, "NONE: another n", SeatsEdgesTest::reseatRefused);
    }

    private static void reseat(CoachesVote x, int n, int due, int who, int where) {
        Check.same("reseat " + n, x.reseat(n), due);
        Check.row("reseat " + n, x, who, where);
    }

    private static void ofTheTrain() {
        reseat(Check.told(FORK, "++", "1b1"), 1, 1, 0, 0);
        // Who stands can't come, and no one goes to a coach that stands.
        reseat(Check.told(FORK, "+a", "1b1"), 12, 0, -1, -1);
        reseat(Check.told(FORK, "a++", "2b1"), 1, 1, 0, 1);
        // Out is out.
        reseat(Check.told(FORK, "++", "1a1"), 12, 0, -1, -1);
        reseat(Check.told(FORK, "++++++", "5b1"), 1, 1, 0, 0);
    }

    private static void reseatRuns() {
        // In the first coach it is there in the last run but for one more that it stays.
        for (int n = 1; n <= 12; n++) {
            reseat(late(n - 1), n, 1, 0, 0);
            reseat(late(n), n, 0, -1, -1);
        }
    }

    private static void noneMakesMore() {
        reseat(Check.told(FORK, "++", "0b1"), 12, 1, -1, -1);
        reseat(Check.told(FORK, "++", "0b1;0a1"), 12, 1, -1, -1);
        reseat(Check.told(FORK, "+", "0b1;0b1;0b1"), 1, 3, -1, -1);
        reseat(Check.told(FORK, "++", "0d1;1d1"), 12, 0, -1, -1);
        reseat(new CoachesVote(), 1, 0, -1, -1);
        reseat(Check.told(FORK, "++++++", "0b1;".repeat(11) + "0b1"), 12, 12, -1, -1);
        // By heads left would win, and one be out, as things are; but heads do not count.
        reseat(Check.told(FORK, "++", "0b1;1c3"), 1, 1, 1, 0);
    }

    private static void reseatLikeOnes() {
        reseat(Check.told(RING, "+++", "2b1;2b1;2b1"), 1, 1, 0, 0);
        // Either can go to the head, coach 1, by which both arrive.
        CoachesVote x = Check.told(RING, "a+", "0b1;0b1");
        x.couple();
        reseat(x, 1, 2, 0, 1);
        // By the last one's move all but its own coach go along.
        reseat(Check.told(RING, "+++", "1b1;2b1;0a1"), 1, 2, 1, 0);
        // The third one is with one who would stay: in either coach ahead it arrives, too.
        reseat(Check.told(FORK, "+++", "0b3;1b3;2b1;2d2"), 1, 3, 2, 0);
    }

    private static void reseatRefused() {
        for (int wild : WILD) {
            Looks.refused("reseat " + wild, Looks::busy, x -> x.reseat(wild), -1);
        }
        Looks.refused("reseat 0", Looks::busy, x -> x.reseat(0), -1);
        Looks.refused("reseat 13", Looks::busy, x -> x.reseat(13), -1);
        Looks.asked("reseat 1", Looks::busy, x -> x.reseat(1), 2);
        Looks.asked("reseat 12", Looks::busy, x -> x.reseat(12), 3);
    }

    // ---- promise 29

    private static void closes(Edges edges) {
        edges.test(29, "The EXIT of a HALT (2 times the HALT, and 0 or 1) which, closed (none) from now on, makes the most OUT",
                SeatsEdgesTest::closedExits)
            .test(29, "in n RUNS (1 .. 12): it", SeatsEdgesTest::closeRuns)
            .test(29, "of equal ones the least (-3, if none makes more than with all open)", SeatsEdgesTest::closeLikeOnes)
            .test(29, "the ROW: how many are OUT more then than now (with all open, if -3)", SeatsEdgesTest::closeRows)
            .test(29, "NONE: another n", SeatsEdgesTest::closeRefused);
    }

    private static void close(CoachesVote x, int n, int due, int out) {
        Check.same("close " + n, x.close(n), due);
        Check.row("close " + n, x, out);
    }

    private static final String DETOUR = "3:b1c1;c1-;--";

    private static void closedExits() {
        // With a's right exit closed both go to b, and on to c.
        close(Check.told(DETOUR, "++", "0c4;1b2"), 2, 1, 2);
        // The same with a's left one, turned round.
        close(Check.told("3:c1b1;c1-;--", "++", "0c4;1b2"), 2, 0, 2);
        // The same at the last of nine halts.
        CoachesVote right = Check.told("9:i1-;c1-;--;--;--;--;--;--;b1c1", "++", "0c4;1b2");
        right.go(0, 2);
        close(right, 2, 17, 2);
        CoachesVote left = Check.told("9:i1-;c1-;--;--;--;--;--;--;c1b1", "++", "0c4;1b2");
        left.go(0, 2);
        close(left, 2, 16, 2);
    }

    private static void closeRuns() {
        for (int n = 2; n <= 12; n++) {
            String late = "r*(n>" + (n - 3) + ")";
            close(ruled(Check.told(DETOUR, "++", "0c4;1b2"), late), n, 1, 2);
            close(ruled(Check.told(DETOUR, "++", "0c4;1b2"), late), n - 1, -3, 1);
        }
        close(Check.told(DETOUR, "++", "0b2;1c4"), 1, 1, 1);
        // By heads the train would go left with a's right exit closed; but heads do not count.
        close(Check.told(FORK, "++", "0b2;1c4"), 1, -3, 0);
    }

    private static void closeLikeOnes() {
        // The way to c by d is closed at a, or at d: then all go by b.
        close(Check.told("4:b1d1;c9-;--;c1-", "++", "0b2;1c4"), 1, 1, 1);
        close(Check.told("4:d1b1;c9-;--;c1-", "++", "0b2;1c4"), 1, 0, 1);
        close(Check.told(FORK, "+", "0b1"), 12, -3, 1);
        close(Check.told(FORK, "+", "0d1"), 12, -3, 0);
        close(new CoachesVote(), 12, -3, 0);
        // As many by a closed exit as with all open: none makes more.
        close(Check.told(DETOUR, "++", "0c4;1b2"), 1, -3, 1);
    }

    private static void closeRows() {
        close(Check.told(DETOUR, "++", "0c4;1b2;0a1"), 2, 1, 2);
        close(Check.told(DETOUR, "++", "0c4;1b2;0a1"), 1, -3, 1);
        close(Check.told(DETOUR, "++", "0c4;1b1;1b1;0c1"), 2, 1, 4);
    }

    private static void closeRefused() {
        for (int wild : WILD) {
            Looks.refused("close " + wild, Looks::busy, x -> x.close(wild), -1);
        }
        Looks.refused("close 0", Looks::busy, x -> x.close(0), -1);
        Looks.refused("close 13", Looks::busy, x -> x.close(13), -1);
        Looks.asked("close 1", Looks::busy, x -> x.close(1), -3);
        Looks.State detour = () -> Check.told(DETOUR, "++", "0c4;1b2");
        Looks.asked("close 2", detour, x -> x.close(2), 1);
        CoachesVote open = detour.make();
        open.close(2);
        Check.same("still open", open.way(0, 2), 1);
        Check.same("still open", open.go(1, 2), 1);
    }

    // ---- promise 30

    private static void fetches(Edges edges) {
        edges.test(30, "goes to all HALTS with COACHES that stand (by shortest ways), and comes to a HALT at last: how many",
                SeatsEdgesTest::allThatStand)
            .test(30, "in which order it goes to these HALTS (each once; one that it only comes by on a shortest way to another one is"
                + " gone to yet)", SeatsEdgesTest::eachOnce)
            .test(30, "of as short ones the least row", SeatsEdgesTest::leastOrder)
            .test(30, "-2: it can't", SeatsEdgesTest::cannotFetch)
            .test(30, "NONE: none such", SeatsEdgesTest::fetchNoneSuch);
    }

    private static void fetch(CoachesVote x, int last, int due, long... order) {
        Check.same("fetch " + last, x.fetch(last), due);
        Check.row("fetch " + last, x, order);
    }

    private static void allThatStand() {
        fetch(Check.told(STEPS, "", ""), 0, 0);
        fetch(Check.told(STEPS, "++++++", ""), 8, 8);
        fetch(Check.told(STEPS, "bcdefg", ""), 8, 8, 1, 2, 3, 4, 5, 6);
        fetch(Check.told(STEPS, "bcdefg", ""), 6, 6, 1, 2, 3, 4, 5, 6);
        fetch(Check.told(STEPS, "gfedcb", ""), 0, 9, 1, 2, 3, 4, 5, 6);
        fetch(Check.told(STEPS, "i", ""), 7, 16, 8);
        fetch(Check.told(STEPS, "dihgfe", ""), 8, 8, 3, 4, 5, 6, 7, 8);
    }

    private static void eachOnce() {
        fetch(Check.told(STEPS, "bbbbbb", ""), 1, 1, 1);
        fetch(Check.told(STEPS, "aaaaaa", ""), 0, 0, 0);
        fetch(Check.told(STEPS, "ab+", ""), 1, 1, 0, 1);
        // It comes by b on its way to c, and goes to b at last: 1, 2 and 2, 1 are as short.
        fetch(Check.told(RING, "bc", ""), 1, 11, 1, 2);
        CoachesVote x = Check.told(RING, "bc", "");
        x.go(0, 0);
        fetch(x, 1, 9, 1, 2);
        fetch(x, 2, 3, 1, 2);
    }

    private static void leastOrder() {
        // b there and back is 2, a c d a is 3: the order of both is as short.
        fetch(Check.told("4:b1c1;a1-;d1a1;a1-", "dcb", ""), 0, 5, 1, 2, 3);
        fetch(Check.told("4:c2-;d1-;b3-;a1-", "dbc", ""), 3, 6, 2, 1, 3);
        // Of two ways the shorter one, though its order is greater.
        fetch(Check.told("3:b2c1;c2-;b2-", "bc", ""), 1, 3, 2, 1);
        fetch(Check.told("3:b1c1;c1-;b1-", "bc", ""), 1, 2, 2, 1);
        fetch(Check.told("3:b1c1;c1a1;b1a1", "bc", ""), 0, 3, 1, 2);
        allOrders();
    }

    /** Nets of all kinds, against all orders, gone through one by one. */
    private static void allOrders() {
        for (int seed = 1; seed <= 60; seed++) {
            Random random = new Random(seed);
            StringBuilder net = new StringBuilder("7:");
            for (int exit = 0; exit < 14; exit++) {
                // The left exits make a ring, so that all can be come to.
                int to = exit % 2 == 0 ? (exit / 2 + 1) % 7 : random.nextInt(7);
                net.append(exit > 0 && exit % 2 == 0 ? ";" : "").append((char) ('a' + to)).append(1 + random.nextInt(4));
            }
            StringBuilder coaches = new StringBuilder();
            for (int i = 0; i <= seed % 6; i++) {
                coaches.append((char) ('a' + random.nextInt(7)));
            }
            CoachesVote x = Check.told(net.toString(), coaches.toString(), "");
            int last = random.nextInt(7);
            List<Integer> goals = coaches.chars().map(c -> c - 'a').distinct().sorted().boxed().toList();
            int[] best = {Integer.MAX_VALUE};
            List<Integer> order = new ArrayList<>();
            goOn(x, goals, new ArrayList<>(), last, best, order);
            fetch(x, last, best[0], order.stream().mapToLong(i -> i).toArray());
        }
    }

    /** All orders from the least on, so that a later one is better only if it is shorter. */
    private static void goOn(CoachesVote x, List<Integer> goals, List<Integer> gone, int last, int[] best,
            List<Integer> order) {
        if (gone.size() == goals.size()) {
            int minutes = 0;
            int at = 0;
            for (int goal : gone) {
                minutes += x.way(at, goal);
                at = goal;
            }
            minutes += x.way(at, last);
            if (minutes < best[0]) {
                best[0] = minutes;
                order.clear();
                order.addAll(gone);
            }
            return;
        }
        for (int goal : goals) {
            if (!gone.contains(goal)) {
                gone.add(goal);
                goOn(x, goals, gone, last, best, order);
                gone.remove(gone.size() - 1);
            }
        }
    }

    private static void cannotFetch() {
        Looks.State state = () -> {
            CoachesVote x = Check.told("3:b1-;--;--", "ab", "");
            x.way(0, 1);
            return x;
        };
        Looks.refused("no way back", state, x -> x.fetch(0), -2);
        Looks.refused("no way there", state, x -> x.fetch(2), -2);
        fetch(state.make(), 1, 1, 0, 1);
        Looks.refused("no way to one that stands", () -> Check.told("3:b1-;--;--", "c", ""), x -> x.fetch(0), -2);
        Looks.refused("no way from one that stands to the other", () -> Check.told("3:b1c1;--;--", "bc", ""), x -> x.fetch(1), -2);
        fetch(Check.told("3:b1c1;--;--", "++", ""), 0, 0);
    }

    private static void fetchNoneSuch() {
        for (int wild : WILD) {
            Looks.refused("halt " + wild, Looks::busy, x -> x.fetch(wild), -1);
        }
        Looks.refused("halt 4", Looks::busy, x -> x.fetch(4), -1);
        Looks.asked("the last", Looks::busy, x -> x.fetch(3), 16);
        Looks.refused("1 of one", CoachesVote::new, x -> x.fetch(1), -1);
    }

    // ---- promise 31

    private static void laws(Edges edges) {
        edges.test(31, "THE TEXT is another RULE (an empty one: none)", SeatsEdgesTest::emptyLaw)
            .test(31, "how many are OUT more than now in 10 RUNS by it, less how many by THE RULE: how much; the ROW: both",
                SeatsEdgesTest::tenRuns)
            .test(31, "-10000 - p: the sign at p can't stand there (as rule())", SeatsEdgesTest::lawFaults);
    }

    private static void law(CoachesVote x, String law, int due, int byIt, int asItIs) {
        Check.same("law " + law, Check.say(x, law).law(), due);
        Check.row("law " + law, x, byIt, asItIs);
        Check.same("emptied", x.count(11), 0);
    }

    private static void emptyLaw() {
        CoachesVote x = ruled(Check.told(RING, "+", "0b3"), "0");
        law(x, "", 1, 1, 0);
        law(x, "r", 1, 1, 0);
        Check.same("the rule is as it was", x.passenger(0, 3), 0);
        law(new CoachesVote(), "", 0, 0, 0);
        Looks.askedText("law", Looks::busy, "", CoachesVote::law, 0);
    }

    private static void tenRuns() {
        law(Check.told(RING, "+", "0b3;0a1"), "n>8", 0, 1, 1);
        law(Check.told(RING, "+", "0b3;0a1"), "n>9", -1, 0, 1);
        law(ruled(Check.told(RING, "+", "0b3"), "n>8"), "0", -1, 0, 1);
        law(ruled(Check.told(RING, "+", "0b3"), "n>9"), "0", 0, 0, 0);
        law(ruled(Check.told(RING, "+", "0b3;0b1"), "n>9"), "n>8", 2, 2, 0);
        law(Check.told(FORK, "++", "0b1;1c3"), "4-r", 1, 1, 0);
        law(ruled(Check.told(FORK, "++", "0b1;1c3"), "4-r"), "", -1, 0, 1);
    }

    private static void lawFaults() {
        String[] texts = {"z", "r+", "r", "-", "()", "r<1<2", "1234", "(((((r", "r+".repeat(20), "-".repeat(40) + "r", "r".repeat(80)};
        int[] due = {-10000, -10002, 0, -10001, -10001, -10003, -10003, -10004, -10040, -10040, -10001};
        for (int i = 0; i < texts.length; i++) {
            if (due[i] < 0) {
                Looks.refusedText("law", Looks::busy, texts[i], CoachesVote::law, due[i]);
                Check.same("as rule", Check.say(Looks.busy(), texts[i]).rule(), due[i] + 10000 - 1);
            }
        }
        Looks.refusedText("law of 41", Looks::busy, "-r" + "+1".repeat(19) + "+", CoachesVote::law, -10040);
        Looks.askedText("law of 40", Looks::busy, "-r" + "+1".repeat(19), CoachesVote::law, 0);
    }

    // ---- promise 32

    private static void heads(Edges edges) {
        edges.test(32, "each COACH of THE TRAIN has one vote (its VOTE), the course is that of most of them (of like ones the first of"
                + " left, right, stay; without COACHES: stay)", SeatsEdgesTest::mostHeads)
            .test(32, "else all as in a RUN", SeatsEdgesTest::elseAsRuns)
            .test(32, "how many are OUT more than now in n RUNS (1 .. 30) so; the ROW: where THE ENGINE is then", SeatsEdgesTest::headRuns)
            .test(32, "NONE: another n", SeatsEdgesTest::headsRefused);
    }

    private static void mostHeads() {
        // Coaches for left, right, stay; and where the engine is behind a run.
        int[][] likeOnes = {{1, 0, 0, 1}, {0, 1, 0, 2}, {0, 0, 1, 0}, {1, 1, 0, 1}, {1, 2, 0, 2}, {2, 1, 0, 1}, {1, 0, 1, 1}, {1, 0, 2, 0},
            {0, 1, 1, 2}, {0, 1, 2, 0}, {0, 2, 1, 2}, {1, 1, 1, 1}, {2, 2, 2, 1}, {1, 2, 2, 2}, {2, 1, 2, 1}, {1, 1, 2, 0}, {3, 3, 0, 1},
            {0, 3, 3, 2}, {3, 0, 3, 1}, {2, 3, 1, 2}, {0, 0, 6, 0}, {0, 0, 0, 0}};
        for (int[] one : likeOnes) {
            StringBuilder lines = new StringBuilder();
            int coach = 0;
            for (int wish = 2; wish >= 0; wish--) {
                for (int i = 0; i < one[wish]; i++) {
                    // RANKS are of no matter but in each coach.
                    lines.append(lines.length() > 0 ? ";" : "").append(coach).append("bcd".charAt(wish)).append(9 - coach);
                    coach++;
                }
            }
            CoachesVote x = Check.told(FORK, "+".repeat(coach), lines.toString());
            x.heads(1);
            Check.row("heads " + lines, x, one[3]);
        }
        CoachesVote y = Check.told(FORK, "+aa", "0b1;1c9;2c9");
        Check.same("those that stand have none", y.heads(1), 1);
        Check.row("those that stand have none", y, 1);
        CoachesVote none = Check.told(FORK, "aa", "0b1;1b1");
        Check.same("without coaches: stay", none.heads(30), 0);
        Check.row("without coaches: stay", none, 0);
        CoachesVote empty = Check.told(FORK, "+++", "0b9");
        Check.same("empty ones vote to stay", empty.heads(30), 0);
        Check.row("empty ones vote to stay", empty, 0);
    }

    private static void elseAsRuns() {
        // Left by two of three, the second one is for right: it and the third one are left behind.
        CoachesVote x = Check.told(FORK, "+++", "0b1;1c9;2b1");
        Check.same("the first alone arrives", x.heads(1), 1);
        Check.row("at b", x, 1);
        Check.same("and nobody more", x.heads(30), 1);
        CoachesVote one = Check.told(RING, "++", "0c1;0c2;1b3;0a1");
        Check.same("as runs", one.heads(2), one.ahead(2));
    }

    private static void headRuns() {
        for (int n = 1; n <= 30; n++) {
            CoachesVote x = ruled(Check.told(RING, "+", "0b5"), "n>" + (n - 2));
            Check.same("in the last run", x.heads(n), 1);
            Check.row("in the last run", x, 1);
            CoachesVote y = ruled(Check.told(RING, "+", "0b5"), "n>" + (n - 1));
            Check.same("one run too late", y.heads(n), 0);
            Check.row("one run too late", y, 0);
        }
    }

    private static void headsRefused() {
        for (int wild : WILD) {
            Looks.refused("heads " + wild, Looks::busy, x -> x.heads(wild), -1);
        }
        Looks.refused("heads 0", Looks::busy, x -> x.heads(0), -1);
        Looks.refused("heads 31", Looks::busy, x -> x.heads(31), -1);
        Looks.asked("heads 1", Looks::busy, x -> x.heads(1), 2);
        Looks.asked("heads 30", Looks::busy, x -> x.heads(30), 3);
    }
}
