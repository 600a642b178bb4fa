import java.io.IOException;

/** The edges that promises 38 to 40 name: odds, bargain, nights. */
public final class ChanceEdgesTest {
    private static final String FORK = "4:b1c1;--;--;--";
    private static final String RING = "3:b2-;c3-;a4-";
    private static final int[] WILD = {Integer.MIN_VALUE, -2, -1, Integer.MAX_VALUE};

    public static void main(String[] args) throws IOException {
        Edges edges = new Edges("ChanceEdgesTest");
        odds(edges);
        bargains(edges);
        nights(edges);
        edges.finish(38, 40);
    }

    // ---- promise 38

    private static void odds(Edges edges) {
        edges.test(38, "Each PASSENGER of a COACH stays away from the vote by p tenths (0 .. 10)", ChanceEdgesTest::tenths)
            .test(38, "how likely the COACH's VOTE is v (0 .. 2) then: 0; the ROW: the fraction", ChanceEdgesTest::howLikely)
            .test(38, "-2: more than 8 are in it", ChanceEdgesTest::moreThanEight)
            .test(38, "NONE: others", ChanceEdgesTest::oddsRefused);
    }

    private static void odds(CoachesVote x, int v, int p, long upper, long lower) {
        Check.same("odds of " + v + " by " + p, x.odds(0, v, p), 0);
        Check.row("odds of " + v + " by " + p, x, upper, lower);
    }

    private static void tenths() {
        CoachesVote one = Check.told(FORK, "+", "0b1");
        long[][] due = {{1, 1}, {9, 10}, {4, 5}, {7, 10}, {3, 5}, {1, 2}, {2, 5}, {3, 10}, {1, 5}, {1, 10}, {0, 1}};
        for (int p = 0; p <= 10; p++) {
            odds(one, 0, p, due[p][0], due[p][1]);
            odds(one, 1, p, 0, 1);
            odds(one, 2, p, due[10 - p][0], due[10 - p][1]);
        }
        CoachesVote none = Check.told(FORK, "++a", "1b1;2b1;0a1");
        for (int p = 0; p <= 10; p++) {
            odds(none, 0, p, 0, 1);
            odds(none, 1, p, 0, 1);
            odds(none, 2, p, 1, 1);
        }
    }

    private static void howLikely() {
        CoachesVote x = Check.told(FORK, "++", "0b2;0c1;1d9");
        odds(x, 0, 5, 1, 2);
        odds(x, 1, 5, 1, 4);
        odds(x, 2, 5, 1, 4);
        // Like ones: left, if both are there.
        CoachesVote like = Check.told(FORK, "+", "0b1;0c1");
        odds(like, 0, 3, 7, 10);
        odds(like, 1, 3, 21, 100);
        odds(like, 2, 3, 9, 100);
        // Those for stay count, too: it stays, if the second one is there, or neither.
        CoachesVote stay = Check.told(FORK, "+", "0b1;0d2");
        odds(stay, 0, 2, 4, 25);
        odds(stay, 1, 2, 0, 1);
        odds(stay, 2, 2, 21, 25);
        CoachesVote likeStay = Check.told(FORK, "+", "0c2;0d2");
        odds(likeStay, 1, 2, 4, 5);
        odds(likeStay, 2, 2, 1, 5);
        // Without votes it stays, whoever is there.
        CoachesVote voteless = Check.told(FORK, "+", "0b1;0c1");
        Check.say(voteless, "0").rule();
        odds(voteless, 2, 3, 1, 1);
        odds(voteless, 0, 3, 0, 1);
        // VOTES are as they are with all in it.
        CoachesVote two = Check.told(FORK, "+", "0b1;0b1");
        Check.say(two, "k-1").rule();
        odds(two, 0, 5, 3, 4);
        Looks.asked("odds", Looks::busy, y -> y.odds(0, 0, 5), 0);
    }

    private static CoachesVote many(int passengers) {
        return Check.told(FORK, "++", "0b1;".repeat(passengers - 1) + "0b1");
    }

    private static void moreThanEight() {
        long lower = 1;
        for (int number = 1; number <= 8; number++) {
            lower *= 10;
            odds(many(number), 2, 1, 1, lower);
            odds(many(number), 0, 1, lower - 1, lower);
        }
        for (int number = 9; number <= 12; number++) {
            int n = number;
            for (int v = 0; v <= 2; v++) {
                int vote = v;
                Looks.refused(n + " in it", () -> many(n), x -> x.odds(0, vote, 5), -2);
            }
            Looks.refused(n + " in it, others first: v", () -> many(n), x -> x.odds(0, 3, 5), -1);
            Looks.refused(n + " in it, others first: p", () -> many(n), x -> x.odds(0, 0, 11), -1);
            Check.same("none in the other one", many(n).odds(1, 2, 5), 0);
        }
        // Who is out is not in it.
        CoachesVote out = Check.told(FORK, "+", "0b1;".repeat(8) + "0a1");
        Check.same("eight of nine", out.odds(0, 0, 10), 0);
        Check.row("eight of nine", out, 0, 1);
    }

    private static void oddsRefused() {
        for (int wild : WILD) {
            Looks.refused("coach " + wild, Looks::busy, x -> x.odds(wild, 0, 5), -1);
            Looks.refused("v " + wild, Looks::busy, x -> x.odds(0, wild, 5), -1);
            Looks.refused("p " + wild, Looks::busy, x -> x.odds(0, 0, wild), -1);
        }
        Looks.refused("coach 5", Looks::busy, x -> x.odds(5, 0, 5), -1);
        Looks.refused("v 3", Looks::busy, x -> x.odds(0, 3, 5), -1);
        Looks.refused("p 11", Looks::busy, x -> x.odds(0, 0, 11), -1);
        Check.same("the last of each", Looks.busy().odds(4, 2, 10), 0);
        Looks.refused("0 of none", CoachesVote::new, x -> x.odds(0, 0, 0), -1);
    }

    // ---- promise 39

    private static void bargains(Edges edges) {
        edges.test(39, "Two coaches claim x and y of t (1 .. 20) votes (0 .. t each)", ChanceEdgesTest::claims)
            .test(39, "Pairs by which neither would get more by another claim alone: how many; the ROW: the least",
                ChanceEdgesTest::atRest)
            .test(39, "NONE: another t", ChanceEdgesTest::bargainRefused);
    }

    private static int gets(int own, int other, int t) {
        return own + other <= t ? own : 0;
    }

    private static boolean isBest(int own, int other, int t) {
        for (int claim = 0; claim <= t; claim++) {
            if (gets(claim, other, t) > gets(own, other, t)) {
                return false;
            }
        }
        return true;
    }

    private static void claims() {
        for (int t = 1; t <= 20; t++) {
            int number = 0;
            for (int x = 0; x <= t; x++) {
                for (int y = 0; y <= t; y++) {
                    number += isBest(x, y, t) && isBest(y, x, t) ? 1 : 0;
                }
            }
            Check.same("of " + t, new CoachesVote().bargain(t), number);
        }
    }

    private static void atRest() {
        CoachesVote x = new CoachesVote();
        Check.same("0 1, 1 0, 1 1", x.bargain(1), 3);
        Check.row("0 1", x, 0, 1);
        Check.same("those of 20, and 20 20", x.bargain(20), 22);
        Check.row("0 20", x, 0, 20);
    }

    private static void bargainRefused() {
        for (int wild : WILD) {
            Looks.refused("t " + wild, Looks::busy, x -> x.bargain(wild), -1);
        }
        Looks.refused("t 0", Looks::busy, x -> x.bargain(0), -1);
        Looks.refused("t 21", Looks::busy, x -> x.bargain(21), -1);
        Looks.asked("t 1", Looks::busy, x -> x.bargain(1), 3);
        Looks.asked("t 20", Looks::busy, x -> x.bargain(20), 22);
    }

    // ---- promise 40

    private static void nights(Edges edges) {
        edges.test(40, "n times (1 .. 60)", ChanceEdgesTest::times)
            .test(40, "a DRAW of 5 tells: 0 .. 2: a RUN; 3: COACHES are coupled, if any stand there", ChanceEdgesTest::drawsOfFive)
            .test(40, "4: a DRAW of PASSENGERS tells one (none without) who comes to a COACH that a DRAW of COACHES tells, if both are in"
                + " THE TRAIN (without NOW)", ChanceEdgesTest::drawnMoves)
            .test(40, "how many are OUT more then; the ROW: NOW then, where THE ENGINE is", ChanceEdgesTest::nightRows)
            .test(40, "NONE: another n", ChanceEdgesTest::nightsRefused)
            .test(40, "R = R times 1103515245 + 12345 (as ints; R is seed at first), (R without sign, by 65536) % n",
                ChanceEdgesTest::seeds);
    }

    /** What nights() does, with draws in longs. */
    private static final class Draws {
        private long r;

        Draws(int seed) {
            r = seed & 0xffffffffL;
        }

        int of(int n) {
            r = (r * 1103515245L + 12345L) % 4294967296L;
            return (int) (r / 65536 % n);
        }
    }

    private static final int[] SEEDS = {0, 1, 2, 3, 77, 65535, 65536, -1, -2, Integer.MAX_VALUE, Integer.MIN_VALUE, Integer.MIN_VALUE + 1};

    private static void times() {
        for (int seed : SEEDS) {
            for (int n = 1; n <= 60; n++) {
                Draws draws = new Draws(seed);
                int runs = 0;
                for (int i = 0; i < n; i++) {
                    runs += draws.of(5) < 3 ? 1 : 0;
                }
                CoachesVote x = Check.told(FORK, "+", "");
                Check.same("nobody is out", x.nights(seed, n), 0);
                Check.row("each run is a minute", x, runs, 0);
            }
        }
    }

    /** The first seed whose draws, each of what is drawn there, are these. */
    private static int seedOf(int[] of, int[] drawn) {
        for (int seed = 0; seed < 1000000; seed++) {
            Draws draws = new Draws(seed);
            boolean fits = true;
            for (int i = 0; i < of.length && fits; i++) {
                fits = draws.of(of[i]) == drawn[i];
            }
            if (fits) {
                return seed;
            }
        }
        throw new IllegalStateException("no such seed");
    }

    private static void drawsOfFive() {
        for (int lot = 0; lot <= 4; lot++) {
            int seed = seedOf(new int[] {5}, new int[] {lot});
            CoachesVote x = Check.told(RING, "+a", "0b1;1b1");
            Check.same("lot " + lot, x.nights(seed, 1), lot < 3 ? 1 : 0);
            Check.row("lot " + lot, x, lot < 3 ? 2 : 0, lot < 3 ? 1 : 0);
            // Coupled, and then a run: both arrive.
            int next = seedOf(new int[] {5, 5}, new int[] {3, 2});
            Check.same("coupled", x.nights(next, 2), 2);
            Check.row("no time goes by coupling", x, 2, 1);
        }
        // A run is by passengers, not by heads: right, and nobody is there.
        CoachesVote votes = Check.told(FORK, "++", "0b1;1c3");
        Check.same("a run", votes.nights(0, 1), 0);
        Check.row("at c", votes, 1, 2);
        int seed = seedOf(new int[] {5, 5}, new int[] {3, 0});
        CoachesVote none = Check.told(RING, "+b", "0b1;1c1");
        Check.same("none stands there", none.nights(seed, 2), 1);
        Check.row("none stands there", none, 2, 1);
    }

    private static void drawnMoves() {
        // The first coach is empty, so that the engine goes alone, if neither of the second one comes to it.
        for (int who = 0; who < 2; who++) {
            for (int where = 0; where < 3; where++) {
                int seed = seedOf(new int[] {5, 2, 3, 5}, new int[] {4, who, where, 1});
                CoachesVote x = Check.told(FORK, "++a", "1b1;1b1");
                Check.same(who + " to " + where, x.nights(seed, 2), where == 0 ? 2 : 0);
                Check.row("a run's minute alone", x, 1, 1);
                // Who is in a coach that stands does not come, though there is a draw of coaches.
                CoachesVote y = Check.told(FORK, "++a", "2b1;2b1");
                Check.same("not in the train", y.nights(seed, 2), 0);
                Check.row("not in the train", y, 1, 0);
                // Who is out does not come in again.
                CoachesVote out = Check.told(FORK, "++a", "0a1;1a1");
                Check.same("out", out.nights(seed, 2), 0);
                Check.row("out", out, 1, 0);
            }
        }
        // Without passengers there is no further draw.
        int seed = seedOf(new int[] {5, 5, 5}, new int[] {4, 4, 0});
        CoachesVote nobody = Check.told(FORK, "++", "");
        Check.same("nobody", nobody.nights(seed, 3), 0);
        Check.row("a run in the third", nobody, 1, 0);
    }

    private static void nightRows() {
        int seed = seedOf(new int[] {5, 5}, new int[] {0, 0});
        CoachesVote x = Check.told(RING, "+", "0a1;0b1;0c1");
        x.stand(50);
        Check.same("one out more", x.nights(seed, 1), 1);
        Check.row("now", x, 52, 1);
        Check.same("two out more", x.nights(seed, 2), 2);
        Check.row("now", x, 55, 2);
        Looks.asked("nights", Looks::busy, y -> y.nights(7, 60), Looks.busy().nights(7, 60));
    }

    private static void nightsRefused() {
        for (int wild : WILD) {
            Looks.refused("n " + wild, Looks::busy, x -> x.nights(1, wild), -1);
        }
        Looks.refused("n 0", Looks::busy, x -> x.nights(1, 0), -1);
        Looks.refused("n 61", Looks::busy, x -> x.nights(1, 61), -1);
        Check.yes("n 60", Looks.busy().nights(1, 60) >= 0);
        Check.yes("n 1", Looks.busy().nights(1, 1) >= 0);
    }

    private static void seeds() {
        // R is 12345 behind seed 0, of which 0 by 65536 is left; -1103502900 behind seed -1, without sign 3191464396.
        CoachesVote x = Check.told(RING, "+", "0b1");
        Check.same("seed 0: 0, a run", x.nights(0, 1), 1);
        Check.same("seed 1: 16838 % 5 is 3", x.nights(1, 1), 0);
        Check.same("seed -1: 48697 % 5 is 2, a run", x.nights(-1, 1), 1);
        for (int seed : SEEDS) {
            int lot = new Draws(seed).of(5);
            Check.same("seed " + seed, x.nights(seed, 1), lot < 3 ? 1 : 0);
        }
    }
}
