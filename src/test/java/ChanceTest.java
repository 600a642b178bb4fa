/** Promises 38 to 40: odds, bargain, nights. */
public final class ChanceTest {
    private static final String RING = "3:b2-;c3-;a4-";
    private static final String FORK = "3:b1c2;--;--";

    public static void main(String[] args) {
        odds();
        oddsRefused();
        bargains();
        nightsOfNobody();
        nightsWithTurns();
        nightsRefused();
        Check.finish("ChanceTest");
    }

    private static void odds(CoachesVote x, int v, int p, long upper, long lower) {
        Check.same("odds", x.odds(0, v, p), 0);
        Check.row("odds of " + v + " by " + p, x, upper, lower);
    }

    private static void odds() {
        CoachesVote x = Check.told(FORK, "++", "0b2;0c1");
        odds(x, 0, 5, 1, 2);
        odds(x, 1, 5, 1, 4);
        odds(x, 2, 5, 1, 4);
        odds(x, 0, 3, 7, 10);
        odds(x, 1, 3, 21, 100);
        odds(x, 2, 3, 9, 100);
        odds(x, 0, 0, 1, 1);
        odds(x, 1, 0, 0, 1);
        odds(x, 2, 10, 1, 1);
        odds(x, 0, 10, 0, 1);
        Check.same("empty", x.odds(1, 2, 4), 0);
        Check.row("empty stays", x, 1, 1);
        Check.same("empty", x.odds(1, 0, 4), 0);
        Check.row("empty never goes", x, 0, 1);
        // How many are in it does not change by their staying away.
        Check.say(x, "k-1").rule();
        odds(x, 0, 5, 1, 2);
        Check.say(x, "0").rule();
        odds(x, 2, 3, 1, 1);
        // Of eight like ones all for left: left, if one is there.
        CoachesVote many = Check.told(FORK, "+", "0b1;".repeat(7) + "0b1");
        odds(many, 2, 1, 1, 100000000);
        odds(many, 0, 1, 99999999, 100000000);
        odds(many, 2, 2, 1, 390625);
    }

    private static void oddsRefused() {
        CoachesVote x = Check.told(FORK, "++", "0b1;".repeat(8) + "0b1");
        x.way(0, 1);
        Check.same("nine", x.odds(0, 0, 5), -2);
        Check.same("other ones first", x.odds(0, 3, 5), -1);
        Check.same("v -1", x.odds(1, -1, 5), -1);
        Check.same("p 11", x.odds(1, 0, 11), -1);
        Check.same("p -1", x.odds(1, 0, -1), -1);
        Check.same("no coach", x.odds(2, 0, 5), -1);
        Check.same("no coach", x.odds(-1, 0, 5), -1);
        Check.row("as it was", x, 0, 1);
    }

    private static void bargains() {
        CoachesVote x = new CoachesVote();
        Check.same("0", x.bargain(0), -1);
        Check.same("21", x.bargain(21), -1);
        Check.same("-1", x.bargain(-1), -1);
        Check.row("nothing told", x);
        for (int t = 1; t <= 20; t++) {
            Check.same("all that sum up to t, and both all", x.bargain(t), t + 2);
            Check.row("the least", x, 0, t);
        }
    }

    private static int draw(long[] r, int n) {
        r[0] = (r[0] * 1103515245L + 12345L) & 0xffffffffL;
        return (int) (r[0] / 65536 % n);
    }

    private static void nightsOfNobody() {
        for (int seed : new int[] {0, 1, -1, 77, Integer.MIN_VALUE, Integer.MAX_VALUE, 123456789}) {
            CoachesVote x = Check.told(RING, "+a", "");
            long[] r = {seed & 0xffffffffL};
            int runs = 0;
            for (int i = 0; i < 60; i++) {
                // Without passengers nothing more is drawn, whatever the draw tells.
                runs += draw(r, 5) < 3 ? 1 : 0;
            }
            Check.same("nobody arrives", x.nights(seed, 60), 0);
            Check.row("each run is a minute", x, runs, 0);
            Check.same("nothing changed", x.count(3), 0);
            Check.same("nothing coupled", x.count(5), 1);
        }
    }

    /** By hand: seed 0 draws 0 (a run) at first, seed 1 draws 16838 % 5 = 3 (coupled) at first. */
    private static void nightsWithTurns() {
        CoachesVote x = Check.told(RING, "+a", "0b1;1b5");
        Check.same("a run", x.nights(0, 1), 1);
        Check.row("at b", x, 2, 1);
        Check.same("coupled", x.nights(1, 1), 0);
        Check.row("no time goes by", x, 0, 0);
        Check.same("nothing coupled", x.count(5), 1);
        // 16838, 38526: coupled, then 38526 % 5 = 1, a run with both.
        Check.same("both arrive", x.nights(1, 2), 2);
        Check.row("at b", x, 2, 1);
        // A seed whose first draw is a move: the two draws behind it tell who and whereto.
        for (int seed = 0; seed < 300; seed++) {
            long[] r = {seed};
            if (draw(r, 5) == 4) {
                int who = draw(r, 2);
                int where = draw(r, 2);
                if (draw(r, 5) < 3) {
                    CoachesVote y = Check.told(FORK, "++", "0b1;1c3");
                    // Right by 3 to 1: it arrives, if it sits at the head; the other one never does.
                    Check.same("seed " + seed, y.nights(seed, 2), who == 1 && where == 0 ? 1 : 0);
                    Check.row("seed " + seed, y, 2, 2);
                }
            }
        }
    }

    private static void nightsRefused() {
        CoachesVote x = Check.told(RING, "+", "0b1");
        x.way(0, 1);
        Check.same("0", x.nights(1, 0), -1);
        Check.same("61", x.nights(1, 61), -1);
        Check.same("-1", x.nights(1, -1), -1);
        Check.row("as it was", x, 0, 1);
        x.nights(5, 60);
        Check.same("nothing to undo", x.count(9), 0);
        Check.same("nobody out", x.count(7), 0);
    }
}
