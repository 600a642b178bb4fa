import java.io.IOException;

/** The edges that promises 18 and 19 name: night, undo. */
public final class NightEdgesTest {
    private static final String FORK = "4:b1c1;--;--;--";
    private static final String RING = "3:b2-;c3-;a4-";

    public static void main(String[] args) throws IOException {
        Edges edges = new Edges("NightEdgesTest");
        nights(edges);
        undoes(edges);
        edges.finish(18, 19);
    }

    // ---- promise 18

    private static void nights(Edges edges) {
        edges.test(18, "an empty one: nothing", NightEdgesTest::emptyNight)
            .test(18, "r (run()), c (couple()), x and a digit (cut()), g, a digit 0 or 1, a digit (go())", NightEdgesTest::asCalls)
            .test(18, "w, a letter a .. l (PASSENGER), a digit (COACH; walk()), s and a digit (stand())", NightEdgesTest::asWalks)
            .test(18, "they are done one by one, till one is refused (it answers below 0): how many were done",
                NightEdgesTest::tillRefused)
            .test(18, "the ROW: 1 if one was refused, else 0; how many PASSENGERS are OUT by these", NightEdgesTest::nightRows)
            .test(18, "-1 - p: the sign at p can't stand there", NightEdgesTest::nightFaults)
            .test(18, "its end, if it ends too early", NightEdgesTest::nightEnds)
            .test(18, "60, if it has more and the first 60 could go on or end", NightEdgesTest::longNights)
            .test(18, "nothing is done then", NightEdgesTest::nothingIsDone);
    }

    private static void emptyNight() {
        Looks.State empty = () -> Check.say(Looks.busy(), "");
        Looks.asked("an empty one", empty, CoachesVote::night, 0);
        CoachesVote x = empty.make();
        x.night();
        Check.row("an empty one", x, 0, 0);
        Check.same("nothing to undo by it", x.count(9), 3);
    }

    /** A night of one act does what the call does. */
    private static void asCall(Looks.State state, String night, Looks.Call call) {
        CoachesVote x = state.make();
        Check.same("night " + night, Check.say(x, night).night(), 1);
        Check.same("not refused: " + night, x.row(0), 0);
        Looks.same("night " + night, () -> {
            CoachesVote y = state.make();
            Check.say(y, night).night();
            return y;
        }, () -> {
            CoachesVote y = state.make();
            Check.yes("the call of " + night, call.on(y) >= 0);
            y.end(0);
            return y;
        }, false);
    }

    /** A night of one act that is refused, as the call is, does nothing. */
    private static void asRefused(Looks.State state, String night, Looks.Call call) {
        Check.yes("the call of " + night, call.on(state.make()) < 0);
        CoachesVote x = state.make();
        Check.same("night " + night, Check.say(x, night).night(), 0);
        Check.row("refused: " + night, x, 1, 0);
        Looks.same("refused: " + night, () -> {
            CoachesVote y = state.make();
            Check.say(y, night).night();
            return y;
        }, () -> Check.say(state.make(), ""), false);
    }

    private static CoachesVote six() {
        return Check.told("3:b1c1;--;--", "++++++", "0b1;1b1;2c1;5c1");
    }

    private static void asCalls() {
        asCall(Looks::busy, "r", CoachesVote::run);
        asCall(() -> Check.told(FORK, "+a", "0b1"), "c", CoachesVote::couple);
        asRefused(Looks::busy, "c", CoachesVote::couple);
        for (int digit = 0; digit <= 9; digit++) {
            int n = digit;
            if (n >= 1 && n <= 6) {
                asCall(NightEdgesTest::six, "x" + n, x -> x.cut(n));
            } else {
                asRefused(NightEdgesTest::six, "x" + n, x -> x.cut(n));
            }
            if (n <= 6) {
                asCall(NightEdgesTest::six, "g0" + n, x -> x.go(0, n));
                asCall(NightEdgesTest::six, "g1" + n, x -> x.go(1, n));
            } else {
                asRefused(NightEdgesTest::six, "g0" + n, x -> x.go(0, n));
            }
        }
        asRefused(Looks::busy, "g10", x -> x.go(1, 0));
        Check.same("g2", Check.say(six(), "g20").night(), -2);
        Check.same("g/", Check.say(six(), "g/0").night(), -2);
    }

    private static void asWalks() {
        for (int digit = 0; digit <= 9; digit++) {
            int n = digit;
            asCall(Looks::busy, "s" + n, x -> x.stand(n));
            if (n == 0 || n == 2) {
                asCall(NightEdgesTest::six, "wb" + n, x -> x.walk(1, n));
            } else {
                asRefused(NightEdgesTest::six, "wb" + n, x -> x.walk(1, n));
            }
        }
        Looks.State full = () -> Check.told(FORK, "++", "0b1;".repeat(11) + "0c1");
        for (int i = 0; i < 12; i++) {
            int passenger = i;
            asCall(full, "w" + (char) ('a' + i) + "1", x -> x.walk(passenger, 1));
            Check.same("the letter of " + i, Check.say(full.make(), "w" + (char) ('a' + i) + "1").night(), 1);
        }
        asRefused(NightEdgesTest::six, "we1", x -> x.walk(4, 1));
        asRefused(NightEdgesTest::six, "wl1", x -> x.walk(11, 1));
        Check.same("wm", Check.say(full.make(), "wm1").night(), -2);
        Check.same("w`", Check.say(full.make(), "w`1").night(), -2);
        Check.same("wA", Check.say(full.make(), "wA1").night(), -2);
        asRefused(Looks::busy, "wf1", x -> x.walk(5, 1));
    }

    private static void night(String text, int done, int refused, int out, int now) {
        CoachesVote x = Check.told(RING, "++a", "0c5;1b1;2b4");
        Check.same("night " + text, Check.say(x, text).night(), done);
        Check.row("night " + text, x, refused, out);
        Check.same("now behind " + text, x.count(3), now);
        Check.same("what can be undone behind " + text, x.count(9), done > 0 ? 1 : 0);
    }

    private static void tillRefused() {
        night("s1", 1, 0, 0, 1);
        night("x3s1", 0, 1, 0, 0);
        night("s1x3", 1, 1, 0, 1);
        night("s1x3s5", 1, 1, 0, 1);
        night("s1s2x3s5", 2, 1, 0, 3);
        night("cs1cs5", 2, 1, 0, 1);
        night("g10s1", 0, 1, 0, 0);
        night("x1x1x1s1", 2, 1, 0, 0);
        night("s5x1x1", 3, 0, 0, 5);
        night("s9".repeat(30), 30, 0, 0, 270);
    }

    private static void nightRows() {
        night("r", 1, 0, 1, 2);
        night("rr", 2, 0, 2, 5);
        night("rrx9", 2, 1, 2, 5);
        night("cg03", 2, 0, 2, 2);
        night("cg03g03", 3, 0, 3, 5);
        // One who was out before is not out by these.
        CoachesVote x = Check.told(RING, "++", "0a1;0b1;1c1");
        Check.same("all", Check.say(x, "g02g02").night(), 2);
        Check.row("two of three", x, 0, 2);
        Check.same("nobody more", Check.say(x, "g02").night(), 1);
        Check.row("nobody more", x, 0, 0);
    }

    private static void fault(String text, int due) {
        Looks.refusedText("night", Looks::busy, text, CoachesVote::night, due);
    }

    private static void nightFaults() {
        String night = "rcx1g02wa1s9";
        for (int p = 0; p < night.length(); p++) {
            for (char bad : new char[] {'z', ' ', ':', '/', 0, 255}) {
                CoachesVote x = Check.say(Looks.busy(), night.substring(0, p) + bad + night.substring(p + 1));
                Check.same("wrong at " + p, x.night(), -1 - p);
                Check.same("nothing is done", x.count(9), 3);
            }
        }
        fault("z", -1);
        fault("0", -1);
        fault("R", -1);
        fault("rz", -2);
        fault("xa", -2);
        fault("x10", -3);
        fault("s10", -3);
        fault("g2", -2);
        fault("ga", -2);
        fault("g0a", -3);
        fault("g001", -4);
        fault("w0", -2);
        fault("wm", -2);
        fault("waa", -3);
        fault("wa11", -4);
        fault("r;r", -2);
    }

    private static void nightEnds() {
        for (String text : new String[] {"x", "s", "g", "w", "g0", "g1", "wa", "wl"}) {
            fault(text, -1 - text.length());
            fault("r" + text, -2 - text.length());
        }
        fault("s1".repeat(29) + "s", -60);
        fault("s1".repeat(29) + "rx", -61);
        fault("s1".repeat(29) + "g0", -61);
    }

    private static void longNights() {
        Check.same("59", Check.say(Looks.busy(), "s0".repeat(29) + "r").night(), 30);
        Check.same("60", Check.say(Looks.busy(), "s0".repeat(30)).night(), 30);
        Check.same("60 acts", Check.say(Looks.busy(), "r".repeat(60)).night(), 60);
        for (String more : new String[] {"r", "z", "1", "s0", "z".repeat(20)}) {
            fault("s0".repeat(30) + more, -61);
            fault("r".repeat(59) + "x" + more, -61);
            fault("r".repeat(58) + "g1" + more, -61);
            fault("r".repeat(58) + "wa" + more, -61);
        }
        fault("r".repeat(58) + "x1" + "r", -61);
        fault("r".repeat(59) + "zr", -60);
        fault("z" + "r".repeat(79), -1);
    }

    private static void nothingIsDone() {
        fault("s1z", -3);
        fault("rrrrx", -6);
        fault("g02g0", -6);
    }

    // ---- promise 19

    private static void undoes(Edges edges) {
        edges.test(19, "of 15 that are kept, the latest ones", NightEdgesTest::fifteen)
            .test(19, "The latest run(), go(), couple(), cut(), walk(), stand() or night()", NightEdgesTest::latest)
            .test(19, "such as were done; night() of which one act was done, as one", NightEdgesTest::suchAsWereDone)
            .test(19, "where THE ENGINE and COACHES are, THE TRAIN's order, where PASSENGERS are, NOW are as ahead of it",
                NightEdgesTest::asAheadOfIt)
            .test(19, "how many are left that can be", NightEdgesTest::howManyAreLeft)
            .test(19, "Refused: none", NightEdgesTest::noneToUndo)
            .test(19, "(net(), coaches(), passengers() and again() forget them, if they are not refused", NightEdgesTest::forget)
            .test(19, "empty ones of coaches(), passengers() do not", NightEdgesTest::emptyOnes);
    }

    private static void fifteen() {
        for (int acts = 0; acts <= 33; acts++) {
            CoachesVote x = new CoachesVote();
            for (int i = 1; i <= acts; i++) {
                x.stand(i);
            }
            int kept = Math.min(15, acts);
            Check.same(acts + " acts", x.count(9), kept);
            for (int left = kept - 1; left >= 0; left--) {
                Check.same("undo", x.undo(), left);
                int rest = acts - kept + left;
                Check.same("now behind " + rest, x.count(3), rest * (rest + 1) / 2);
            }
            Check.same("no more", x.undo(), -1);
            int rest = acts - kept;
            Check.same("the oldest ones stay", x.count(3), rest * (rest + 1) / 2);
        }
    }

    private static void latest() {
        CoachesVote x = Check.told(RING, "+ab", "0c5");
        Looks.Call[] acts = {CoachesVote::run, y -> y.go(0, 1), y -> y.go(0, 0), CoachesVote::couple, y -> y.cut(1),
            CoachesVote::couple, y -> y.stand(9), y -> Check.say(y, "s1c").night(), y -> y.go(0, 0), CoachesVote::couple,
            CoachesVote::run};
        long[] due = {0, 3, 4, 1, 0, 1, 18, 1, 2, 1, 2};
        for (int i = 1; i <= acts.length; i++) {
            for (int j = 0; j < i; j++) {
                Check.same("act " + j, acts[j].on(x), due[j]);
            }
            Check.same("as many as acts", x.count(9), i);
            for (int j = i - 1; j >= 0; j--) {
                Check.same("undone", x.undo(), j);
            }
            Check.same("engine", x.count(4), 0);
            Check.same("now", x.count(3), 0);
            Check.same("train", x.count(5), 0b001);
        }
        Check.same("none", x.undo(), -1);
        CoachesVote y = Check.told(RING, "++", "0c5");
        y.walk(0, 1);
        Check.same("a walk", y.undo(), 0);
        Check.same("it is back", y.passenger(0, 0), 0);
    }

    private static void suchAsWereDone() {
        CoachesVote x = Check.told(RING, "++", "0c5;0a1");
        x.go(1, 0);
        x.go(0, 3);
        x.couple();
        x.cut(0);
        x.cut(3);
        x.walk(1, 1);
        x.walk(0, 0);
        x.stand(100);
        Check.say(x, "").night();
        Check.say(x, "x3").night();
        Check.say(x, "cs1").night();
        Check.say(x, "s1z").night();
        Check.same("none was done", x.count(9), 0);
        Check.same("one act of two", Check.say(x, "s1c").night(), 1);
        Check.same("as one", x.count(9), 1);
        Check.same("three acts", Check.say(x, "s1rs2").night(), 3);
        Check.same("as one", x.count(9), 2);
        Check.same("undone", x.undo(), 1);
        Check.same("now", x.count(3), 1);
        Check.same("undone", x.undo(), 0);
        Check.same("now", x.count(3), 0);
        Check.same("standing for 0 minutes is done", x.stand(0), 0);
        Check.same("one", x.count(9), 1);
        Check.same("a run that stays is done", new CoachesVote().run(), 2);
    }

    private static void asAheadOfIt() {
        CoachesVote x = Check.told(FORK, "a+a+", "1b2;3b1;0c1;2b1");
        x.couple();
        Check.same("the train is 1, 3, 0, 2", x.coach(0, 1), 2);
        x.stand(30);
        Check.same("left", x.run(), 0);
        Check.row("0 and 2 are left", x, 0b0101, 0b0011, 1);
        Check.same("undone", x.undo(), 2);
        int[] places = {2, 0, 3, 1};
        int[] seats = {1, 3, 0, 2};
        for (int i = 0; i < 4; i++) {
            Check.same("place", x.coach(i, 1), places[i]);
            Check.same("halt", x.coach(i, 0), 0);
            Check.same("seat", x.passenger(i, 0), seats[i]);
        }
        Check.same("now", x.count(3), 30);
        Check.same("engine", x.count(4), 0);
        Check.row("the row is no part of it", x, 0b0101, 0b0011, 1);
        // Nor are RANKS, THE RULE, what was seen.
        CoachesVote y = Check.told(FORK, "+", "0b2");
        y.stand(1);
        y.sheet(2, 1, 7, 0);
        Check.say(y, "r+1").rule();
        y.seen(1, 1, 1);
        y.keep(1);
        Check.same("undone", y.undo(), 0);
        Check.same("rank", y.passenger(0, 2), 7);
        Check.same("rule", y.passenger(0, 3), 8);
        Check.same("seen", y.count(8), 1);
        Check.yes("kept", y.again(1));
        Check.same("now as it was kept", y.count(3), 1);
    }

    private static void howManyAreLeft() {
        CoachesVote x = new CoachesVote();
        x.stand(1);
        x.stand(2);
        Check.same("one", x.undo(), 1);
        x.stand(3);
        Check.same("one", x.undo(), 1);
        Check.same("none", x.undo(), 0);
        Check.same("now", x.count(3), 0);
    }

    private static void noneToUndo() {
        Looks.refused("none", CoachesVote::new, CoachesVote::undo, -1);
        Looks.State undone = () -> {
            CoachesVote x = Looks.busy();
            for (int i = 0; i < 3; i++) {
                x.undo();
            }
            return x;
        };
        Looks.refused("none is left", undone, CoachesVote::undo, -1);
    }

    private static void forget(String what, Looks.Call call, boolean forgets) {
        CoachesVote x = Looks.busy();
        call.on(x);
        Check.same("behind " + what, x.count(9), forgets ? 0 : 3);
        Check.same("undo behind " + what, x.undo(), forgets ? -1 : 2);
    }

    private static void forget() {
        forget("net", x -> Check.say(x, Looks.NET).net(), true);
        forget("a refused net", x -> Check.say(x, "0").net(), false);
        forget("coaches", x -> Check.say(x, "+").coaches(), true);
        forget("refused coaches", x -> Check.say(x, "++").coaches(), false);
        forget("passengers", x -> Check.say(x, "0b1").passengers(), true);
        forget("refused passengers", x -> Check.say(x, "0b0").passengers(), false);
        forget("again", x -> x.again(0) ? 1 : 0, true);
        forget("again of nothing kept", x -> x.again(1) ? 1 : 0, false);
        forget("again(3)", x -> x.again(3) ? 1 : 0, false);
        forget("rule", x -> Check.say(x, "r").rule(), false);
        forget("sheet", x -> x.sheet(2, 3, 1, 1), false);
        forget("keep", x -> x.keep(0) ? 1 : 0, false);
        forget("forget", CoachesVote::forget, false);
    }

    private static void emptyOnes() {
        forget("empty coaches", x -> Check.say(x, "").coaches(), false);
        forget("empty passengers", x -> Check.say(x, "").passengers(), false);
    }
}
