import java.io.IOException;

/** The edges that promises 12 to 17 name: run, go, couple, cut, walk, stand. */
public final class ActsEdgesTest {
    private static final String FORK = "4:b1c1;--;--;--";
    /** Three halts in a ring, by left exits. */
    private static final String RING = "3:b2-;c3-;a4-";
    private static final int[] WILD = {Integer.MIN_VALUE, -2, -1, Integer.MAX_VALUE};

    public static void main(String[] args) throws IOException {
        Edges edges = new Edges("ActsEdgesTest");
        runs(edges);
        goes(edges);
        couples(edges);
        cuts(edges);
        walks(edges);
        stands(edges);
        edges.finish(12, 17);
    }

    private static void state(String what, CoachesVote x, int engine, int now, int train, int out) {
        Check.same(what + ", engine", x.count(4), engine);
        Check.same(what + ", now", x.count(3), now);
        Check.same(what + ", train", x.count(5), train);
        Check.same(what + ", out", x.count(7), out);
    }

    /** Behind the act and undo() all is as ahead of it, but for the ROW. */
    private static void canBeUndone(String what, Looks.State state, Looks.Call act) {
        Looks.same(what + ", undone", () -> {
            CoachesVote x = state.make();
            int before = x.count(9);
            Check.yes(what, act.on(x) >= 0);
            Check.same(what + " can be undone", x.count(9), before + 1);
            Check.same(what + ", undone", x.undo(), before);
            return x;
        }, state, false);
    }

    // ---- promise 12

    private static void runs(Edges edges) {
        edges.test(12, "the course (0, 1; 2 if it stays, also if that EXIT is none)", ActsEdgesTest::courses)
            .test(12, "COACHES that are left (bits), PASSENGERS that are OUT by it (bits), MINUTES", ActsEdgesTest::runRows);
    }

    private static void courses() {
        Check.same("left", Check.told(FORK, "+", "0b1").run(), 0);
        Check.same("right", Check.told(FORK, "+", "0c1").run(), 1);
        Check.same("stays", Check.told(FORK, "+", "0d1").run(), 2);
        Check.same("empty", Check.told(FORK, "+", "").run(), 2);
        Check.same("no train", Check.told(FORK, "a", "0b1").run(), 2);
        Check.same("no exits", Check.told(FORK, "+b", "1a1").run(), 2);
        // The right exit is none, the left one is not: nobody can wish for the right one.
        CoachesVote x = Check.told(RING, "+", "0c1");
        Check.same("left alone", x.run(), 0);
        Check.same("left alone", x.run(), 0);
        Check.same("nobody is left in it", x.run(), 2);
        canBeUndone("a run", Looks::busy, CoachesVote::run);
        canBeUndone("a run that stays", () -> Check.told(FORK, "+", "0d1"), CoachesVote::run);
    }

    private static void runRows() {
        CoachesVote x = Check.told(FORK, "+++", "0b2;1b1;2c2;0b1;0a1");
        Check.same("left", x.run(), 0);
        Check.row("the last is left; three get out, not the one that was out", x, 0b100, 0b01011, 1);
        Check.same("nobody is in the train", x.run(), 2);
        Check.row("a minute", x, 0, 0, 1);
        CoachesVote y = Check.told("3:b9-;--;--", "++", "0b2;1c1");
        Check.same("left", y.run(), 0);
        Check.row("nine minutes", y, 0b10, 0b01, 9);
        Check.same("stays", y.run(), 2);
        Check.row("a minute behind nine", y, 0, 0, 1);
        CoachesVote z = Check.told(RING, "+++", "0c2;1c1;2c1");
        Check.same("left", z.run(), 0);
        Check.row("none is left, none is out", z, 0, 0, 2);
        CoachesVote alone = Check.told(FORK, "++++++", "0d1;1b3");
        Check.same("left", alone.run(), 0);
        Check.row("all are left", alone, 0b111111, 0, 1);
        state("alone", alone, 1, 1, 0, 0);
    }

    // ---- promise 13

    private static void goes(Edges edges) {
        edges.test(13, "THE ENGINE goes by an EXIT (0 left, 1 right)", ActsEdgesTest::goExits)
            .test(13, "with THE TRAIN's first n COACHES (0 .. how many it has), without a vote; all others stand at the HALT",
                ActsEdgesTest::goCoaches)
            .test(13, "MINUTES; the ROW: PASSENGERS that are OUT by it (bits)", ActsEdgesTest::goOut)
            .test(13, "-2: there is no such EXIT; NONE: others", ActsEdgesTest::goRefused);
    }

    private static void goExits() {
        CoachesVote x = Check.told("3:b2c7;--;--", "+", "");
        Check.same("left", x.go(0, 1), 2);
        state("left", x, 1, 2, 1, 0);
        x.undo();
        Check.same("right", x.go(1, 1), 7);
        state("right", x, 2, 7, 1, 0);
        CoachesVote y = Check.told("1:a3-", "++", "");
        Check.same("to where it was", y.go(0, 1), 3);
        state("to where it was", y, 0, 3, 0b01, 0);
        Check.same("the other one stands there", y.halt(0, 4), 0b10);
    }

    private static void goCoaches() {
        for (int coaches = 0; coaches <= 6; coaches++) {
            for (int n = 0; n <= coaches; n++) {
                // All wish to stay: it is done without a vote.
                CoachesVote x = Check.told(FORK, "+".repeat(coaches), coaches > 0 ? "0d9" : "");
                Check.same(n + " of " + coaches, x.go(1, n), 1);
                int along = (1 << n) - 1;
                state(n + " of " + coaches, x, 2, 1, along, 0);
                Check.same("others stand", x.halt(0, 4), (1 << coaches) - 1 & ~along);
            }
            int many = coaches;
            Looks.State state = () -> Check.told(FORK, "+".repeat(many), "");
            Looks.refused("one more than " + many, state, x -> x.go(1, many + 1), -1);
            Looks.refused("one below 0 of " + many, state, x -> x.go(1, -1), -1);
        }
        canBeUndone("go with all", Looks::busy, x -> x.go(0, 2));
        canBeUndone("go with none", Looks::busy, x -> x.go(0, 0));
        Looks.refused("go with one that is not in the train", Looks::busy, x -> x.go(0, 3), -1);
    }

    private static void goOut() {
        CoachesVote x = Check.told(FORK, "++", "0b1;1b1;0c1;0b1;0a1");
        Check.same("a minute", x.go(0, 1), 1);
        Check.row("two of the first coach", x, 0b01001);
        state("now", x, 1, 1, 0b01, 0b11001);
        CoachesVote y = Check.told(FORK, "++", "0b1;1b1");
        y.go(1, 2);
        Check.row("nobody", y, 0);
        CoachesVote z = Check.told("2:b9-;--", "+", "0b1;".repeat(11) + "0b1");
        Check.same("nine minutes", z.go(0, 1), 9);
        Check.row("all twelve", z, 0xfff);
    }

    private static void goRefused() {
        Looks.State bare = () -> {
            CoachesVote x = Looks.busy();
            x.go(0, 2);
            x.go(0, 1);
            x.go(1, 1);
            return x;
        };
        Check.same("at c there are no exits", bare.make().count(4), 2);
        Looks.refused("no left exit", bare, x -> x.go(0, 0), -2);
        Looks.refused("no right exit", bare, x -> x.go(1, 1), -2);
        Looks.refused("no exit, and too many: others first", bare, x -> x.go(0, 2), -1);
        Looks.refused("no exit, and below 0: others first", bare, x -> x.go(0, -1), -1);
        Looks.refused("exit 2", bare, x -> x.go(2, 0), -1);
        Looks.refused("no right exit", Looks::busy, x -> x.go(1, 0), -2);
        for (int wild : WILD) {
            Looks.refused("exit " + wild, Looks::busy, x -> x.go(wild, 0), -1);
            Looks.refused("n " + wild, Looks::busy, x -> x.go(0, wild), -1);
        }
        Looks.refused("exit 2", Looks::busy, x -> x.go(2, 0), -1);
    }

    // ---- promise 14

    private static void couples(Edges edges) {
        edges.test(14, "All COACHES that stand at THE ENGINE's HALT come to THE TRAIN's end, by their numbers: how many",
                ActsEdgesTest::comeToItsEnd)
            .test(14, "-2: there are none", ActsEdgesTest::noneToCouple);
    }

    private static void comeToItsEnd() {
        CoachesVote x = Check.told(FORK, "ab+aca", "");
        Check.same("three", x.couple(), 3);
        int[] places = {1, -1, 0, 2, -1, 3};
        for (int coach = 0; coach < 6; coach++) {
            Check.same("place of " + coach, x.coach(coach, 1), places[coach]);
        }
        Check.same("no time goes by", x.count(3), 0);
        CoachesVote all = Check.told(FORK, "aaaaaa", "");
        Check.same("six to no train", all.couple(), 6);
        Check.same("the last", all.coach(5, 1), 5);
        CoachesVote one = Check.told(FORK, "+++++a", "");
        Check.same("one to five", one.couple(), 1);
        Check.same("six", one.count(5), 0b111111);
        // Its order is that of coming, not that of numbers, ahead of those that come now.
        CoachesVote turned = Check.told(FORK, "aa", "");
        turned.couple();
        turned.cut(1);
        Check.same("one more", Check.say(turned, "+").coaches(), 1);
        Check.same("the one that was cut", turned.couple(), 1);
        Check.same("behind the new one", turned.coach(1, 1), 2);
        Check.same("the new one", turned.coach(2, 1), 1);
        canBeUndone("couple", () -> Check.told(FORK, "ab+aca", "0b1"), CoachesVote::couple);
    }

    private static void noneToCouple() {
        Looks.refused("none stands at b", Looks::busy, CoachesVote::couple, -2);
        Looks.refused("no coaches", CoachesVote::new, CoachesVote::couple, -2);
        Looks.refused("all in the train", () -> Check.told(FORK, "++++++", ""), CoachesVote::couple, -2);
        Looks.refused("all elsewhere", () -> Check.told(FORK, "bcd", ""), CoachesVote::couple, -2);
    }

    // ---- promise 15

    private static void cuts(Edges edges) {
        edges.test(15, "THE TRAIN's last n COACHES (1 .. how many it has) stand at the HALT: how many are left in THE TRAIN",
                ActsEdgesTest::lastCoaches)
            .test(15, "Refused: another n", ActsEdgesTest::cutRefused);
    }

    private static void lastCoaches() {
        for (int coaches = 1; coaches <= 6; coaches++) {
            for (int n = 1; n <= coaches; n++) {
                CoachesVote x = Check.told(FORK, "+".repeat(coaches), "0b1");
                Check.same(n + " of " + coaches, x.cut(n), coaches - n);
                state(n + " of " + coaches, x, 0, 0, (1 << coaches - n) - 1, 0);
                Check.same("they stand", x.halt(0, 4), (1 << coaches) - (1 << coaches - n));
            }
        }
        canBeUndone("cut of one", Looks::busy, x -> x.cut(1));
        canBeUndone("cut of all", Looks::busy, x -> x.cut(2));
    }

    private static void cutRefused() {
        for (int coaches = 0; coaches <= 6; coaches++) {
            int many = coaches;
            Looks.State state = () -> Check.told(FORK, "+".repeat(many), "");
            Looks.refused("0 of " + many, state, x -> x.cut(0), -1);
            Looks.refused("one more than " + many, state, x -> x.cut(many + 1), -1);
        }
        for (int wild : WILD) {
            Looks.refused("cut " + wild, Looks::busy, x -> x.cut(wild), -1);
        }
        Looks.refused("cut 0", Looks::busy, x -> x.cut(0), -1);
        Looks.refused("cut 3 of two", Looks::busy, x -> x.cut(3), -1);
    }

    // ---- promise 16

    private static void walks(Edges edges) {
        edges.test(16, "A PASSENGER walks to another COACH: which one it left; NOW is 1 more", ActsEdgesTest::walkOn)
            .test(16, "-2: it is OUT", ActsEdgesTest::walkOut)
            .test(16, "-3: the COACHES are not neighbours in THE TRAIN", ActsEdgesTest::neighbours)
            .test(16, "NONE: none such", ActsEdgesTest::walkNoneSuch);
    }

    private static void walkOn() {
        CoachesVote x = Check.told(FORK, "++++++", "0b1;5c1");
        for (int coach = 1; coach < 6; coach++) {
            Check.same("on", x.walk(0, coach), coach - 1);
            Check.same("it is there", x.passenger(0, 0), coach);
            Check.same("a minute", x.count(3), coach);
        }
        for (int coach = 4; coach >= 0; coach--) {
            Check.same("back", x.walk(1, coach), coach + 1);
            Check.same("it is there", x.passenger(1, 0), coach);
        }
        Check.same("ten minutes", x.count(3), 10);
        canBeUndone("walk", Looks::busy, y -> y.walk(0, 1));
    }

    private static void walkOut() {
        Looks.refused("out, to a neighbour of where it was", Looks::busy, x -> x.walk(5, 1), -2);
        Looks.refused("out, to where it was", Looks::busy, x -> x.walk(5, 0), -2);
        Looks.refused("out, to one that stands", Looks::busy, x -> x.walk(5, 4), -2);
        Looks.refused("out, to none such: that first", Looks::busy, x -> x.walk(5, 5), -1);
    }

    private static void neighbours() {
        for (int from = 0; from < 6; from++) {
            for (int to = 0; to < 6; to++) {
                int at = from;
                Looks.State state = () -> Check.told(FORK, "++++++", at + "b1");
                int coach = to;
                if (Math.abs(from - to) == 1) {
                    Check.same(from + " to " + to, state.make().walk(0, to), from);
                } else {
                    Looks.refused(from + " to " + to, state, x -> x.walk(0, coach), -3);
                }
            }
        }
        Looks.refused("to one that stands", Looks::busy, x -> x.walk(0, 4), -3);
        Looks.refused("from one that stands", Looks::busy, x -> x.walk(4, 0), -3);
        Looks.refused("both stand at the same halt", Looks::busy, x -> x.walk(3, 3), -3);
        // By their places, not by their numbers: the train is 1, 0, 2.
        CoachesVote x = Check.told(FORK, "a+a", "1b1");
        x.couple();
        Check.same("1 and 2 are not", x.walk(0, 2), -3);
        Check.same("1 and 0 are", x.walk(0, 0), 1);
        Check.same("0 and 2 are", x.walk(0, 2), 0);
    }

    private static void walkNoneSuch() {
        for (int wild : WILD) {
            Looks.refused("passenger " + wild, Looks::busy, x -> x.walk(wild, 1), -1);
            Looks.refused("coach " + wild, Looks::busy, x -> x.walk(0, wild), -1);
        }
        Looks.refused("passenger 7", Looks::busy, x -> x.walk(7, 1), -1);
        Looks.refused("coach 5", Looks::busy, x -> x.walk(0, 5), -1);
        Check.same("the last passenger", Looks.busy().walk(6, 0), 1);
        Looks.refused("none at all", CoachesVote::new, x -> x.walk(0, 0), -1);
    }

    // ---- promise 17

    private static void stands(Edges edges) {
        edges.test(17, "n MINUTES (0 .. 99) go by: NOW", ActsEdgesTest::minutesGoBy)
            .test(17, "Refused: another n", ActsEdgesTest::standRefused);
    }

    private static void minutesGoBy() {
        for (int n = 0; n <= 99; n++) {
            CoachesVote x = new CoachesVote();
            Check.same("first", x.stand(n), n);
            Check.same("99 more", x.stand(99), n + 99);
            Check.same("now", x.count(3), n + 99);
        }
        canBeUndone("stand 0", Looks::busy, x -> x.stand(0));
        canBeUndone("stand 99", Looks::busy, x -> x.stand(99));
    }

    private static void standRefused() {
        for (int wild : WILD) {
            Looks.refused("stand " + wild, Looks::busy, x -> x.stand(wild), -1);
        }
        Looks.refused("stand 100", Looks::busy, x -> x.stand(100), -1);
    }
}
