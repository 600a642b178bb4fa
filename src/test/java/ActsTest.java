/** Promises 12 to 19: run, go, couple, cut, walk, stand, night, undo. */
public final class ActsTest {
    /** Three halts in a ring, by left exits. */
    private static final String RING = "3:b2-;c3-;a4-";
    private static final String FORK = "3:b1c2;--;--";

    public static void main(String[] args) {
        runs();
        runLeavesBehind();
        goes();
        couples();
        cuts();
        walks();
        stands();
        nights();
        nightFaults();
        undoes();
        forgets();
        Check.finish("ActsTest");
    }

    private static void state(String what, CoachesVote x, int engine, int now, int train, int out) {
        Check.same(what + ", engine", x.count(4), engine);
        Check.same(what + ", now", x.count(3), now);
        Check.same(what + ", train", x.count(5), train);
        Check.same(what + ", out", x.count(7), out);
    }

    private static void runs() {
        CoachesVote x = Check.told(RING, "++", "0c5;1b1");
        Check.same("first run", x.run(), 0);
        Check.row("first run", x, 0, 0b10, 2);
        state("first run", x, 1, 2, 0b11, 0b10);
        Check.same("second run", x.run(), 0);
        Check.row("an empty coach votes to stay", x, 0b10, 0b01, 3);
        state("second run", x, 2, 5, 0b01, 0b11);
        Check.same("it stands", x.halt(1, 4), 0b10);
        Check.same("nobody votes", x.run(), 2);
        Check.row("nobody votes", x, 0, 0, 1);
        state("nobody votes", x, 2, 6, 0b01, 0b11);
        Check.same("undo", x.undo(), 2);
        Check.row("undo leaves the row", x, 0, 0, 1);
        state("undone", x, 2, 5, 0b01, 0b11);
        Check.same("undo", x.undo(), 1);
        state("undone", x, 1, 2, 0b11, 0b10);
        Check.same("undo", x.undo(), 0);
        state("undone", x, 0, 0, 0b11, 0);
        Check.same("undo", x.undo(), -1);
        state("not undone", x, 0, 0, 0b11, 0);
    }

    private static void runLeavesBehind() {
        // The train votes right by 5 to 4; the first coach right, the second left, the third right.
        CoachesVote x = Check.told(FORK, "+++", "0c3;1b4;2c2");
        Check.same("right", x.run(), 1);
        Check.row("the second and all behind it", x, 0b110, 0b001, 2);
        state("right", x, 2, 2, 0b001, 0b001);
        Check.same("they stand at a", x.halt(0, 4), 0b110);
        // Nobody gets out of a coach that stands elsewhere; one whose coach stands at WANT was out before.
        Check.same("second", x.coach(1, 2), 0b010);
        CoachesVote y = Check.told(FORK, "+++", "0c3;1b5;2c2");
        Check.same("like ones: left", y.run(), 0);
        Check.row("the first votes right: the engine goes alone", y, 0b111, 0, 1);
        state("alone", y, 1, 1, 0, 0);
        // No way on: all wish to stay.
        CoachesVote z = Check.told("2:--;--", "+", "0b5");
        Check.same("stays", z.run(), 2);
        Check.row("stays", z, 0, 0, 1);
        // Votes of 0 are votes to stay.
        CoachesVote w = Check.told(RING, "+", "0b5");
        Check.say(w, "0").rule();
        Check.same("stays", w.run(), 2);
    }

    private static void goes() {
        CoachesVote x = Check.told(RING, "++", "0c5;1b1");
        x.way(0, 1);
        Check.same("no right exit", x.go(1, 0), -2);
        Check.same("too many, ahead of no exit", x.go(1, 3), -1);
        Check.same("too many", x.go(0, 3), -1);
        Check.same("below 0", x.go(0, -1), -1);
        Check.same("no exit 2", x.go(2, 0), -1);
        Check.same("no exit -1", x.go(-1, 0), -1);
        state("nothing changed", x, 0, 0, 0b11, 0);
        Check.row("the row is as it was", x, 0, 1);
        Check.same("nothing to undo", x.count(9), 0);
        Check.same("with the first", x.go(0, 1), 2);
        Check.row("nobody out", x, 0);
        state("with the first", x, 1, 2, 0b01, 0);
        Check.same("the second stands", x.coach(1, 0), 0);
        Check.same("to c", x.go(0, 1), 3);
        Check.row("one out", x, 0b01);
        Check.same("alone", x.go(0, 0), 4);
        Check.row("nobody more", x, 0);
        state("alone", x, 0, 9, 0, 0b01);
        Check.same("three to undo", x.undo(), 2);
        state("undone", x, 2, 5, 0b01, 0b01);
        CoachesVote y = Check.told("1:a3-", "++", "");
        Check.same("back to where it was", y.go(0, 1), 3);
        Check.same("one stands there", y.halt(0, 4), 0b10);
        state("engine there too", y, 0, 3, 0b01, 0);
    }

    private static void couples() {
        CoachesVote x = Check.told(RING, "a+ab", "");
        Check.same("two", x.couple(), 2);
        Check.same("first", x.coach(1, 1), 0);
        Check.same("by their numbers", x.coach(0, 1), 1);
        Check.same("by their numbers", x.coach(2, 1), 2);
        Check.same("elsewhere", x.coach(3, 1), -1);
        Check.same("none left", x.couple(), -2);
        Check.same("one to undo", x.count(9), 1);
        x.go(0, 3);
        Check.same("there", x.couple(), 1);
        Check.same("all", x.count(5), 0b1111);
        Check.same("none stand", x.count(6), 0);
        x.undo();
        x.undo();
        x.undo();
        Check.same("undone", x.count(5), 0b0010);
    }

    private static void cuts() {
        CoachesVote x = Check.told(RING, "a+a", "");
        x.couple();
        Check.same("0", x.cut(0), -1);
        Check.same("4", x.cut(4), -1);
        Check.same("-1", x.cut(-1), -1);
        Check.same("two", x.cut(2), 1);
        Check.same("train", x.count(5), 0b010);
        Check.same("stand", x.halt(0, 4), 0b101);
        Check.same("last", x.cut(1), 0);
        Check.same("no more", x.cut(1), -1);
        Check.same("time", x.count(3), 0);
        Check.same("undoable", x.count(9), 3);
        // A coach coupled again comes to the end, by its number.
        Check.same("all", x.couple(), 3);
        Check.same("order", x.coach(0, 1), 0);
        Check.same("undone", x.undo(), 3);
        x.undo();
        x.undo();
        Check.same("order as it was", x.coach(1, 1), 0);
        Check.same("order as it was", x.coach(0, 1), 1);
    }

    private static void walks() {
        CoachesVote x = Check.told(RING, "a+ab", "0b1;1a1;3c2;1b2");
        x.couple();
        Check.same("no passenger", x.walk(4, 0), -1);
        Check.same("no passenger", x.walk(-1, 0), -1);
        Check.same("no coach", x.walk(0, 4), -1);
        Check.same("no coach, of one that is out", x.walk(1, -1), -1);
        Check.same("out", x.walk(1, 0), -2);
        Check.same("its own", x.walk(0, 0), -3);
        Check.same("one that stands", x.walk(0, 3), -3);
        Check.same("from one that stands", x.walk(2, 0), -3);
        Check.same("not neighbours", x.walk(3, 2), -3);
        Check.same("no time went by", x.count(3), 0);
        Check.same("neighbours", x.walk(0, 2), 0);
        Check.same("there", x.passenger(0, 0), 2);
        Check.same("a minute", x.count(3), 1);
        Check.same("places 2 and 0", x.walk(0, 1), -3);
        Check.same("back", x.walk(0, 0), 2);
        Check.same("forward", x.walk(0, 1), 0);
        Check.same("now", x.count(3), 3);
        x.undo();
        Check.same("undone", x.passenger(0, 0), 0);
        Check.same("undone", x.count(3), 2);
    }

    private static void stands() {
        CoachesVote x = new CoachesVote();
        Check.same("5", x.stand(5), 5);
        Check.same("0", x.stand(0), 5);
        Check.same("99", x.stand(99), 104);
        Check.same("100", x.stand(100), -1);
        Check.same("-1", x.stand(-1), -1);
        Check.same("now", x.count(3), 104);
        Check.same("undoable", x.count(9), 3);
    }

    private static void nights() {
        CoachesVote x = Check.told(RING, "++a", "0c5;1b1;2b4");
        x.stand(1);
        Check.same("empty", Check.say(x, "").night(), 0);
        Check.row("empty", x, 0, 0);
        Check.same("nothing to undo by it", x.count(9), 1);
        Check.same("first refused", Check.say(x, "x4r").night(), 0);
        Check.row("first refused", x, 1, 0);
        Check.same("nothing to undo by it", x.count(9), 1);
        Check.same("all", Check.say(x, "s9cwb0g03x1r").night(), 6);
        Check.row("all: coaches 0, 1 and 2 at b, then 0 and 1 on to c", x, 0, 3);
        // 1 + 9, 1 by walking, 2 to b, 3 to c; the second coach is empty, so the first one goes alone.
        state("all", x, 2, 16, 0b001, 0b111);
        Check.same("emptied", x.count(11), 0);
        Check.same("as one", x.count(9), 2);
        Check.same("undone as one", x.undo(), 1);
        state("undone", x, 0, 1, 0b011, 0);
        Check.same("walked back", x.passenger(1, 0), 1);
        Check.same("the third is refused", Check.say(x, "s1rcs5").night(), 2);
        Check.row("the third is refused", x, 1, 1);
        state("the third is refused", x, 1, 4, 0b011, 0b010);
        x.undo();
        Check.same("no such passenger", Check.say(x, "wl0r").night(), 0);
        Check.same("not neighbours", Check.say(x, "wa2").night(), 0);
        Check.same("no such coach", Check.say(x, "wa9").night(), 0);
        Check.same("no right exit", Check.say(x, "g10").night(), 0);
        Check.row("no right exit", x, 1, 0);
        Check.same("cut of none", Check.say(x, "x0").night(), 0);
        Check.same("nothing of them can be undone", x.count(9), 1);
        Check.same("standing 0", Check.say(x, "s0").night(), 1);
        Check.same("sixty signs", Check.say(x, "s0".repeat(30)).night(), 30);
        Check.same("sixty acts", Check.say(x, "r".repeat(60)).night(), 60);
        Check.same("as one", x.count(9), 4);
    }

    private static void fault(String text, int due) {
        CoachesVote x = Check.told(RING, "++", "0c5;1b1");
        x.way(0, 1);
        Check.same("night " + text, Check.say(x, text).night(), due);
        state("nothing done of " + text, x, 0, 0, 0b11, 0);
        Check.row("night " + text, x, 0, 1);
        Check.same("emptied", x.count(11), 0);
        Check.same("nothing to undo", x.count(9), 0);
    }

    private static void nightFaults() {
        fault("z", -1);
        fault("R", -1);
        fault("rz", -2);
        fault("rx", -3);
        fault("rxa", -3);
        fault("s", -2);
        fault("ss", -2);
        fault("s12", -3);
        fault("g", -2);
        fault("g2", -2);
        fault("g-", -2);
        fault("g0", -3);
        fault("g0a", -3);
        fault("g00g0", -6);
        fault("w", -2);
        fault("wm0", -2);
        fault("w0", -2);
        fault("wa", -3);
        fault("waa", -3);
        fault("r".repeat(60) + "r", -61);
        fault("r".repeat(59) + "x1", -61);
        fault("r".repeat(58) + "g11", -61);
        fault("r".repeat(60) + "z".repeat(20), -61);
        fault("r".repeat(30) + "z".repeat(50), -31);
        fault("r".repeat(59) + "z" + "r", -60);
        fault("r" + (char) 0, -2);
    }

    private static void undoes() {
        CoachesVote x = new CoachesVote();
        for (int i = 1; i <= 17; i++) {
            x.stand(i);
        }
        Check.same("fifteen", x.count(9), 15);
        for (int i = 14; i >= 0; i--) {
            Check.same("undo", x.undo(), i);
            Check.same("now", x.count(3), (i + 2) * (i + 3) / 2);
        }
        Check.same("none", x.undo(), -1);
        Check.same("the oldest two stay", x.count(3), 3);
        x.stand(4);
        Check.same("one again", x.count(9), 1);
        Check.same("undone", x.undo(), 0);
        Check.same("now", x.count(3), 3);
        // Refused acts can't be undone.
        x.go(0, 0);
        x.couple();
        x.cut(1);
        x.walk(0, 0);
        x.stand(-1);
        Check.same("none", x.count(9), 0);
    }

    private static void forgets() {
        CoachesVote x = Check.told(RING, "+b", "0c5");
        x.run();
        x.sheet(2, 1, 3, 0);
        Check.same("a sheet forgets nothing", x.count(9), 1);
        x.undo();
        Check.same("a sheet is not undone", x.passenger(0, 2), 3);
        x.keep(0);
        x.stand(1);
        Check.no("nothing kept", x.again(1));
        Check.same("refused, nothing forgotten", x.count(9), 1);
        Check.yes("kept", x.again(0));
        Check.same("forgotten", x.count(9), 0);
        x.stand(1);
        Check.say(x, "1a1").passengers();
        Check.same("forgotten", x.count(9), 0);
        x.stand(1);
        Check.say(x, "+").coaches();
        Check.same("forgotten", x.count(9), 0);
        x.stand(1);
        Check.say(x, RING).net();
        Check.same("forgotten", x.count(9), 0);
    }
}
