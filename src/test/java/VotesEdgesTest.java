import java.io.IOException;

/** The edges that promises 20 to 26 name: way, course, ahead, arrives, tips, power, lobby. */
public final class VotesEdgesTest {
    /** From a: to b by left, to c by right, to d by no way. */
    private static final String FORK = "4:b1c1;--;--;--";
    private static final String RING = "3:b2-;c3-;a4-";
    private static final int[] WILD = {Integer.MIN_VALUE, -2, -1, Integer.MAX_VALUE};

    public static void main(String[] args) throws IOException {
        Edges edges = new Edges("VotesEdgesTest");
        ways(edges);
        courses(edges);
        aheads(edges);
        arrivals(edges);
        tips(edges);
        powers(edges);
        lobbies(edges);
        edges.finish(20, 26);
    }

    // ---- promise 20

    private static void ways(Edges edges) {
        edges.test(20, "The shortest way from a HALT to another one, or the same: MINUTES", VotesEdgesTest::shortest)
            .test(20, "the ROW: the HALTS in turn, both too: of as short ones the least row", VotesEdgesTest::haltsInTurn)
            .test(20, "-2: none", VotesEdgesTest::noWay)
            .test(20, "NONE: none such", VotesEdgesTest::noSuchHalts);
    }

    private static void shortest() {
        CoachesVote x = Check.told("9:b9-;c9-;d9-;e9-;f9-;g9-;h9-;i9-;a9-", "", "");
        for (int from = 0; from < 9; from++) {
            for (int to = 0; to < 9; to++) {
                int steps = (to - from + 9) % 9;
                Check.same(from + " to " + to, x.way(from, to), 9 * steps);
                Check.same("halts", x.count(10), steps + 1);
                Check.same("the first", x.row(0), from);
                Check.same("the last", x.row(steps), to);
            }
        }
        CoachesVote right = Check.told("9:-b9;-c9;-d9;-e9;-f9;-g9;-h9;-i9;-a9", "", "");
        for (int from = 0; from < 9; from++) {
            for (int to = 0; to < 9; to++) {
                int steps = (to - from + 9) % 9;
                Check.same("by right exits, " + from + " to " + to, right.way(from, to), 9 * steps);
                for (int i = 0; i <= steps; i++) {
                    Check.same("by right exits", right.row(i), (from + i) % 9);
                }
            }
        }
        for (int straight = 1; straight <= 9; straight++) {
            CoachesVote y = Check.told("3:b" + straight + "c2;--;b3-", "", "");
            Check.same("straight in " + straight + ", or in 5", y.way(0, 1), Math.min(straight, 5));
        }
        Check.same("the shorter exit", Check.told("2:b5b4;--", "", "").way(0, 1), 4);
        Check.same("the shorter exit", Check.told("2:b4b5;--", "", "").way(0, 1), 4);
        Check.same("round by an exit to itself", Check.told("1:a5-", "", "").way(0, 0), 0);
    }

    private static void haltsInTurn() {
        CoachesVote same = new CoachesVote();
        Check.same("the same", same.way(0, 0), 0);
        Check.row("once", same, 0);
        CoachesVote x = Check.told("4:c1b1;d1-;d1-;--", "", "");
        Check.same("by b or c", x.way(0, 3), 2);
        Check.row("b is less, though left goes to c", x, 0, 1, 3);
        CoachesVote y = Check.told("3:c5b2;c3-;--", "", "");
        Check.same("straight or by b", y.way(0, 2), 5);
        Check.row("the longer row is less", y, 0, 1, 2);
        CoachesVote z = Check.told("3:b5c2;--;b3-", "", "");
        Check.same("straight or by c", z.way(0, 1), 5);
        Check.row("the shorter row is less", z, 0, 1);
        CoachesVote w = Check.told("3:b6c2;--;b3-", "", "");
        Check.same("by c", w.way(0, 1), 5);
        Check.row("by c", w, 0, 2, 1);
    }

    private static void noWay() {
        Looks.refused("no exit", Looks::busy, x -> x.way(2, 0), -2);
        Looks.refused("no exit", Looks::busy, x -> x.way(2, 3), -2);
        Check.same("the same halt, without exits", Looks.busy().way(2, 2), 0);
        Check.same("the other way round", Looks.busy().way(3, 2), 14);
    }

    private static void noSuchHalts() {
        for (int wild : WILD) {
            Looks.refused("from " + wild, Looks::busy, x -> x.way(wild, 0), -1);
            Looks.refused("to " + wild, Looks::busy, x -> x.way(0, wild), -1);
        }
        Looks.refused("from 4", Looks::busy, x -> x.way(4, 0), -1);
        Looks.refused("to 4", Looks::busy, x -> x.way(0, 4), -1);
        Looks.refused("both", Looks::busy, x -> x.way(4, 4), -1);
        Check.same("the last", Looks.busy().way(3, 3), 0);
        Looks.refused("1 of one", CoachesVote::new, x -> x.way(0, 1), -1);
    }

    // ---- promise 21

    private static void courses(Edges edges) {
        edges.test(21, "What a RUN would do: the course (as run())", VotesEdgesTest::asRun)
            .test(21, "the ROW: COACHES that would be left (bits), VOTES for left, right, stay of THE TRAIN", VotesEdgesTest::courseRows);
    }

    private static void asRun() {
        Looks.State[] states = {CoachesVote::new, Looks::busy, () -> Check.told(FORK, "+++", "0b2;1c1;2b2"),
            () -> Check.told(FORK, "+++", "0c2;1c1;2b2"), () -> Check.told(FORK, "++", "0d1;1b5"), () -> Check.told(FORK, "aa", "0b1")};
        int[] due = {2, 0, 0, 1, 0, 2};
        for (int i = 0; i < states.length; i++) {
            Looks.asked("course of " + i, states[i], CoachesVote::course, due[i]);
            CoachesVote x = states[i].make();
            CoachesVote y = states[i].make();
            Check.same("as run", x.course(), y.run());
            Check.same("left", x.row(0), y.row(0));
        }
    }

    private static void courseRows() {
        CoachesVote x = Check.told(FORK, "+++a", "0b2;1c1;2b2;1d3;3c9;0a9");
        Check.same("left", x.course(), 0);
        Check.row("those that stand and who is out have none", x, 0b110, 4, 1, 3);
        CoachesVote none = Check.told(FORK, "++", "");
        Check.same("stays", none.course(), 2);
        Check.row("stays: none would be left", none, 0, 0, 0, 0);
        CoachesVote full = Check.told(FORK, "+", "0c9;".repeat(11) + "0c9");
        Check.say(full, "99").rule();
        Check.same("right", full.course(), 1);
        Check.row("all there can be", full, 0, 0, 12 * 99, 0);
    }

    // ---- promise 22

    private static void aheads(Edges edges) {
        edges.test(22, "In n RUNS (0 .. 30): how many PASSENGERS would be OUT more", VotesEdgesTest::aheadAsRuns)
            .test(22, "the ROW: where THE ENGINE is then, NOW then, COACHES in THE TRAIN then (bits)", VotesEdgesTest::aheadRows)
            .test(22, "NONE: another n", VotesEdgesTest::aheadRefused);
    }

    /** By the rule nobody has a vote till so many minutes went by. */
    private static CoachesVote late(int minutes) {
        CoachesVote x = Check.told(RING, "+", "0b5");
        Check.same("rule", Check.say(x, "n>" + (minutes - 1)).rule(), 0);
        return x;
    }

    private static void aheadAsRuns() {
        // In the last one most passengers are for right, but as many coaches for left.
        Looks.State[] states = {CoachesVote::new, Looks::busy, () -> late(29), () -> Check.told(RING, "++a", "0a1;0c2;1b1;2c1"),
            () -> Check.told(FORK, "++", "0b1;1c9")};
        for (Looks.State state : states) {
            CoachesVote runs = state.make();
            int before = Integer.bitCount(runs.count(7));
            for (int n = 0; n <= 30; n++) {
                CoachesVote x = state.make();
                Check.same("ahead " + n, x.ahead(n), Integer.bitCount(runs.count(7)) - before);
                Check.row("ahead " + n, x, runs.count(4), runs.count(3), runs.count(5));
                runs.run();
            }
        }
        Check.same("the 30th run", late(29).ahead(30), 1);
        Check.same("not the 29th", late(29).ahead(29), 0);
        Check.same("the 31st is too late", late(30).ahead(30), 0);
    }

    private static void aheadRows() {
        CoachesVote x = Check.told(RING, "++", "0c5;1b1;0a9");
        Check.same("now", x.ahead(0), 0);
        Check.row("now", x, 0, 0, 0b11);
        Check.same("one", x.ahead(1), 1);
        Check.row("one", x, 1, 2, 0b11);
        Check.same("two", x.ahead(2), 2);
        Check.row("two", x, 2, 5, 0b01);
        Check.same("30", x.ahead(30), 2);
        Check.row("28 minutes more", x, 2, 33, 0b01);
    }

    private static void aheadRefused() {
        for (int wild : WILD) {
            Looks.refused("ahead " + wild, Looks::busy, x -> x.ahead(wild), -1);
        }
        Looks.refused("ahead 31", Looks::busy, x -> x.ahead(31), -1);
    }

    // ---- promise 23

    private static void arrivals(Edges edges) {
        edges.test(23, "In how many RUNS (0 .. 30) a PASSENGER is OUT: how many; the ROW: NOW then", VotesEdgesTest::inHowMany)
            .test(23, "-2: not in 30", VotesEdgesTest::notInThirty)
            .test(23, "NONE: none such", VotesEdgesTest::arrivesNoneSuch);
    }

    private static void inHowMany() {
        for (int minutes = 0; minutes <= 29; minutes++) {
            CoachesVote x = late(minutes);
            Check.same("behind " + minutes, x.arrives(0), minutes + 1);
            Check.row("behind " + minutes, x, minutes + 2);
        }
        CoachesVote out = Check.told(RING, "+", "0a1");
        out.stand(7);
        Check.same("out", out.arrives(0), 0);
        Check.row("out", out, 7);
        CoachesVote ring = Check.told(RING, "+", "0c1");
        Check.same("two runs", ring.arrives(0), 2);
        Check.row("two runs", ring, 5);
        CoachesVote right = Check.told("9:-b1;-c1;-d1;-e1;-f1;-g1;-h1;-i1;--", "+", "0i1");
        Check.same("eight runs by right exits", right.arrives(0), 8);
        Check.row("eight runs by right exits", right, 8);
    }

    private static void notInThirty() {
        Looks.State tooLate = () -> Check.say(late(30), "r");
        Looks.refused("in the 31st", tooLate, x -> x.arrives(0), -2);
        Check.same("in the 30th", late(29).arrives(0), 30);
        Looks.refused("in a coach that stands", Looks::busy, x -> x.arrives(4), -2);
        Looks.refused("no way", () -> Check.told(FORK, "+", "0d1"), x -> x.arrives(0), -2);
    }

    private static void arrivesNoneSuch() {
        for (int wild : WILD) {
            Looks.refused("passenger " + wild, Looks::busy, x -> x.arrives(wild), -1);
        }
        Looks.refused("passenger 7", Looks::busy, x -> x.arrives(7), -1);
        Check.same("the last", Looks.busy().arrives(6), 1);
        Looks.refused("0 of none", CoachesVote::new, x -> x.arrives(0), -1);
    }

    // ---- promise 24

    private static void tips(Edges edges) {
        edges.test(24, "each of whom could change its VOTE by wishing otherwise (any of left, right, stay; VOTES as they are)",
                VotesEdgesTest::whoTips)
            .test(24, "they; the ROW: how many", VotesEdgesTest::howManyTip)
            .test(24, "NONE: none such", VotesEdgesTest::tipsNoneSuch);
    }

    private static void tip(String passengers, String rule, int due) {
        CoachesVote x = Check.told(FORK, "++a", passengers);
        Check.same("rule", Check.say(x, rule).rule(), 0);
        Check.same("tips of " + passengers + " by " + rule, x.tips(0), due);
        Check.row("tips of " + passengers, x, Integer.bitCount(due));
    }

    private static void whoTips() {
        tip("0b1", "r", 0b1);
        tip("0d1", "r", 0b1);
        tip("0b3;0c3", "r", 0b01);
        tip("0b3;0c4", "r", 0b10);
        tip("0b4;0c3", "r", 0b01);
        // Of like ones left is first: with 4 for each it stays left.
        tip("0b4;0b1;0c3", "r", 0b001);
        tip("0b4;0b1;0c4", "r", 0b011);
        // Right and stay have as many: right; the one for stay tips it by going left.
        tip("0d3;0c3", "r", 0b11);
        tip("0d3;0c4", "r", 0b10);
        tip("0d4;0c3", "r", 0b01);
        // The first one tips it to stay alone, where others are: to right it could not.
        tip("0b2;0b3;0d2", "r", 0b011);
        tip("0c2;0c3;0d1", "r", 0b010);
        tip("0c2;0c3;0d2", "r", 0b011);
        tip("0c2;0c4;0d1", "r", 0b010);
        tip("0c2;0c4;0d3", "r", 0b011);
        tip("0b1;0b1;0b1", "r", 0);
        tip("0b1;0b1", "r", 0b00);
        tip("0b1;0b2", "r", 0b10);
        tip("0c1;0c1", "r", 0b11);
        tip("0d1;0d1", "r", 0b11);
        tip("0d1;0d1;0d1", "r", 0);
        // Without VOTES none tips; the other one alone does.
        tip("0b1;0b2", "r-1", 0b10);
        tip("0b1;0c1", "0", 0);
        // Who sits elsewhere, or is out, does not count.
        tip("1b9;0b1;2c9;0a9", "r", 0b0010);
    }

    private static void howManyTip() {
        tip("", "r", 0);
        tip("1b1", "r", 0);
        tip("0c1;".repeat(11) + "0c1", "r", 0);
        tip("0b1;0b1;0b1;0b1;0b1;0b1;0c1;0c1;0c1;0c1;0c1;0c1", "r", 0b000000111111);
        CoachesVote x = Check.told(FORK, "+b", "1a3");
        Check.same("one that stands", x.tips(1), 0b1);
        Check.row("one that stands", x, 1);
        CoachesVote each = Check.told(FORK, "++++++", "0b1;1c1;2d1;3b1;3b1;3b1;4c1;4c1;5d1;5d2");
        int[] due = {0b0000000001, 0b0000000010, 0b0000000100, 0, 0b0011000000, 0b1000000000};
        for (int coach = 0; coach < 6; coach++) {
            Check.same("of coach " + coach, each.tips(coach), due[coach]);
            Check.row("of coach " + coach, each, Integer.bitCount(due[coach]));
        }
    }

    private static void tipsNoneSuch() {
        for (int wild : WILD) {
            Looks.refused("coach " + wild, Looks::busy, x -> x.tips(wild), -1);
        }
        Looks.refused("coach 5", Looks::busy, x -> x.tips(5), -1);
        Check.same("the last", Looks.busy().tips(4), 0b10000);
        Looks.refused("0 of none", CoachesVote::new, x -> x.tips(0), -1);
    }

    // ---- promise 25

    private static void powers(Edges edges) {
        edges.test(25, "left has as many or more, and without it (it being for right) right has more: how many",
                VotesEdgesTest::howPowerful)
            .test(25, "Of all sets of PASSENGERS of THE TRAIN who are for left (all others for right; VOTES as they are; of like ones"
                + " left)", VotesEdgesTest::setsOfTheTrain)
            .test(25, "the ROW: the fraction of these of all sets in which it is for left", VotesEdgesTest::powerFractions)
            .test(25, "-2: it is not in THE TRAIN", VotesEdgesTest::notInTheTrain)
            .test(25, "NONE: none such", VotesEdgesTest::powerNoneSuch);
    }

    private static void power(String passengers, int who, int due, int upper, int lower) {
        CoachesVote x = Check.told(FORK, "++a", passengers);
        Check.same("power of " + who + " of " + passengers, x.power(who), due);
        Check.row("power of " + who + " of " + passengers, x, upper, lower);
    }

    private static void howPowerful() {
        power("0b1", 0, 1, 1, 1);
        power("0b1;1b1", 0, 1, 1, 2);
        power("0b1;1b1", 1, 1, 1, 2);
        power("0b2;1b1", 0, 2, 1, 1);
        power("0b2;1b1", 1, 0, 0, 1);
        power("0b1;0b1;0b1", 2, 2, 1, 2);
        power("0b2;0b1;0b1", 0, 3, 3, 4);
        power("0b2;0b1;0b1", 1, 1, 1, 4);
        power("0b3;0b1;0b1", 0, 4, 1, 1);
        power("0b3;0b1;0b1", 1, 0, 0, 1);
    }

    private static void setsOfTheTrain() {
        // What each wishes is of no matter; who stands or is out is in no set.
        power("0d1;1c1;2b9;0a9", 0, 1, 1, 2);
        power("0d1;1c1;2b9;0a9", 1, 1, 1, 2);
        power("0d1;1d1", 0, 1, 1, 2);
        power("0d2;1b1", 0, 2, 1, 1);
        power("2b9;0b1;1b1", 1, 1, 1, 2);
        power("0a9;0b1;1b1", 2, 1, 1, 2);
        CoachesVote x = Check.told(FORK, "+", "0b1");
        Check.say(x, "0").rule();
        Check.same("without votes", x.power(0), 0);
        Check.row("without votes", x, 0, 1);
        CoachesVote y = Check.told(FORK, "+", "0b1;0b2");
        Check.say(y, "r-1").rule();
        Check.same("one without votes", y.power(0), 0);
        Check.same("the other one has all", y.power(1), 2);
        Check.row("the other one has all", y, 1, 1);
    }

    private static void powerFractions() {
        String twelve = "0b1;".repeat(11) + "0c1";
        // 5 of the 11 others: with it they are 6 of 12, without it 5.
        power(twelve, 0, 462, 231, 1024);
        power(twelve, 11, 462, 231, 1024);
        power("0b1;".repeat(10) + "0c1", 10, 252, 63, 256);
    }

    private static void notInTheTrain() {
        Looks.refused("out", Looks::busy, x -> x.power(5), -2);
        Looks.refused("in one that stands", Looks::busy, x -> x.power(4), -2);
        Looks.refused("no train", () -> Check.told(FORK, "a", "0b1"), x -> x.power(0), -2);
    }

    private static void powerNoneSuch() {
        for (int wild : WILD) {
            Looks.refused("passenger " + wild, Looks::busy, x -> x.power(wild), -1);
        }
        Looks.refused("passenger 7", Looks::busy, x -> x.power(7), -1);
        Check.same("the last", Looks.busy().power(6), 2);
        Looks.refused("0 of none", CoachesVote::new, x -> x.power(0), -1);
    }

    // ---- promise 26

    private static void lobbies(Edges edges) {
        edges.test(26, "The fewest PASSENGERS of a COACH who must be won", VotesEdgesTest::fewest)
            .test(26, "to be for an EXIT, 0 or 1, or stay, 2", VotesEdgesTest::likeWishes)
            .test(26, "the ROW: they (bits; of as few the least)", VotesEdgesTest::leastSets)
            .test(26, "-2: it can't be", VotesEdgesTest::cannotBeWon)
            .test(26, "NONE: others", VotesEdgesTest::lobbyRefused);
    }

    private static void lobby(String passengers, String rule, int wish, int due, int who) {
        CoachesVote x = Check.told(FORK, "++a", passengers);
        Check.same("rule", Check.say(x, rule).rule(), 0);
        Check.same("lobby for " + wish + " of " + passengers, x.lobby(0, wish), due);
        Check.row("lobby for " + wish + " of " + passengers, x, who);
    }

    private static void fewest() {
        lobby("0b1", "r", 0, 0, 0);
        lobby("0c1", "r", 1, 0, 0);
        lobby("0d1", "r", 2, 0, 0);
        lobby("", "r", 2, 0, 0);
        lobby("1b1", "r", 2, 0, 0);
        lobby("0b1", "0", 2, 0, 0);
        lobby("0b1", "r", 1, 1, 0b1);
        lobby("0b1", "r", 2, 1, 0b1);
        lobby("0c1;0c1;0c5", "r", 0, 1, 0b100);
        lobby("0c1;".repeat(11) + "0c1", "r", 0, 6, 0b111111);
        lobby("0b1;".repeat(11) + "0b1", "r", 1, 7, 0b1111111);
        lobby("1c9;0b1;2c9;0c1;0a9", "r", 1, 1, 0b0010);
    }

    private static void likeWishes() {
        // Left needs as many as right, right needs more than left and as many as stay, stay needs more than both.
        lobby("0c2;0c2", "r", 0, 1, 0b01);
        lobby("0b2;0b2", "r", 1, 2, 0b11);
        lobby("0d2;0d2", "r", 1, 1, 0b01);
        lobby("0d2;0d2", "r", 0, 1, 0b01);
        lobby("0b2;0b2", "r", 2, 2, 0b11);
        lobby("0c2;0c2", "r", 2, 2, 0b11);
        lobby("0b2;0b3", "r", 1, 1, 0b10);
        lobby("0b2;0b3", "r", 2, 1, 0b10);
    }

    private static void leastSets() {
        lobby("0b2;0b2;0c3", "r", 1, 1, 0b001);
        lobby("0b2;0b2;0c3", "r", 2, 2, 0b011);
        lobby("0c1;0c2;0c2;0c1", "r", 0, 2, 0b0011);
        lobby("0c1;0c1;0c2;0c2", "r", 0, 2, 0b0101);
        CoachesVote each = Check.told(FORK, "++++++", "0b1;1c1;2d1;3b1;3b1;3b1;4c1;4c1;5d1;5d2");
        int[][] due = {{0, 1, 1}, {1, 0, 1}, {1, 1, 0}, {0, 0b11000, 0b11000}, {0b1000000, 0, 0b11000000}, {1 << 9, 1 << 9, 0}};
        for (int coach = 0; coach < 6; coach++) {
            for (int wish = 0; wish < 3; wish++) {
                int who = coach < 3 ? due[coach][wish] << coach : due[coach][wish];
                Check.same("coach " + coach + " for " + wish, each.lobby(coach, wish), Integer.bitCount(who));
                Check.row("coach " + coach + " for " + wish, each, who);
            }
        }
        // Who has no VOTES is not won, and who is for it is not won again.
        lobby("0c1;0b2;0c3;0c3", "r-1", 0, 1, 0b0100);
    }

    private static void cannotBeWon() {
        Looks.State empty = () -> Check.told(FORK, "++", "0b1");
        Looks.refused("left, empty", empty, x -> x.lobby(1, 0), -2);
        Looks.refused("right, empty", empty, x -> x.lobby(1, 1), -2);
        Looks.State voteless = () -> {
            CoachesVote x = Check.told(FORK, "+", "0b1;0c1");
            x.way(0, 1);
            Check.say(x, "0").rule();
            return x;
        };
        Looks.refused("left, without votes", voteless, x -> x.lobby(0, 0), -2);
        Looks.refused("right, without votes", voteless, x -> x.lobby(0, 1), -2);
        Check.same("stay, without votes", voteless.make().lobby(0, 2), 0);
    }

    private static void lobbyRefused() {
        for (int wild : WILD) {
            Looks.refused("coach " + wild, Looks::busy, x -> x.lobby(wild, 0), -1);
            Looks.refused("wish " + wild, Looks::busy, x -> x.lobby(0, wild), -1);
        }
        Looks.refused("coach 5", Looks::busy, x -> x.lobby(5, 2), -1);
        Looks.refused("wish 3", Looks::busy, x -> x.lobby(0, 3), -1);
        Looks.refused("wish 3 of an empty one", () -> Check.told(FORK, "+", ""), x -> x.lobby(0, 3), -1);
        Check.same("the last coach, the last wish", Looks.busy().lobby(4, 2), 1);
        Looks.refused("0 of none", CoachesVote::new, x -> x.lobby(0, 2), -1);
    }
}
