/** Promises 27 to 32: seat, reseat, close, fetch, law, heads. */
public final class SeatsTest {
    private static final String RING = "3:b2-;c3-;a4-";
    private static final String FORK = "3:b1c2;--;--";

    public static void main(String[] args) {
        seats();
        seatLikeOnes();
        reseats();
        closes();
        fetches();
        fetchLikeOnes();
        laws();
        heads();
        Check.finish("SeatsTest");
    }

    private static void seats() {
        // Right by 3 to 2, but the first coach votes left: the engine goes alone.
        CoachesVote x = Check.told(FORK, "++b", "0b1;1c3;0b1;2a1;0a1");
        x.way(0, 1);
        Check.same("it never is there", x.arrives(1), -2);
        Check.same("in the first coach it is", x.seat(1), 0);
        Check.row("in one", x, 1);
        Check.same("nowhere", x.seat(0), -2);
        Check.same("stands", x.seat(3), -3);
        Check.same("out", x.seat(4), -3);
        Check.same("none such", x.seat(5), -1);
        Check.same("none such", x.seat(-1), -1);
        Check.row("as it was", x, 1);
        Check.same("nothing changed", x.passenger(1, 0), 1);
        Check.same("nothing to undo", x.count(9), 0);
    }

    private static void seatLikeOnes() {
        // All go along, wherever it sits: the least number, though coach 0 is the last of the train.
        CoachesVote x = Check.told(RING, "a++", "0b3;1b2;2b2;1b1");
        x.couple();
        Check.same("places", x.coach(0, 1), 2);
        Check.same("the least number", x.seat(3), 0);
        Check.row("in one", x, 1);
        // In coach 0 it would leave coach 1 empty at the head: it must stay where it sits.
        CoachesVote y = Check.told(RING, "b+", "1b2");
        y.go(0, 1);
        y.undo();
        Check.same("coaches of the train alone", y.seat(0), 1);
        // Two in coach 1 have votes at once, in coach 0 it has one from minute 1 on alone.
        CoachesVote z = Check.told(RING, "a+", "0b1;1b1");
        z.couple();
        Check.say(z, "(c=1)*(k>1)+(n>0)").rule();
        Check.same("where it sits, in two", z.arrives(0), 2);
        Check.same("one fewer", z.seat(0), 1);
        Check.row("one fewer", z, 1);
        CoachesVote w = Check.told(RING, "+", "0b1");
        Check.say(w, "n>28").rule();
        Check.same("in 30", w.seat(0), 0);
        Check.row("in 30", w, 30);
        Check.say(w, "n>29").rule();
        Check.same("in 31", w.seat(0), -2);
    }

    private static void reseats() {
        CoachesVote x = Check.told(FORK, "++b", "0b1;1c3;0b1;2a1");
        Check.same("one more", x.reseat(1), 1);
        Check.row("one more", x, 1, 0);
        Check.same("nothing changed", x.passenger(1, 0), 1);
        Check.same("0", x.reseat(0), -1);
        Check.same("13", x.reseat(13), -1);
        Check.row("as it was", x, 1, 0);
        CoachesVote y = Check.told(FORK, "++", "0b1");
        Check.same("as all sit", y.reseat(12), 1);
        Check.row("none makes more", y, -1, -1);
        // The head is empty. By the last one's move there all go but its own coach, by the other's one alone.
        CoachesVote z = Check.told(RING, "+++", "1b1;2b1;0a1");
        Check.same("the head is empty: none arrives", z.ahead(1), 0);
        Check.same("the last one to the head", z.reseat(1), 2);
        Check.row("the last one to the head", z, 1, 0);
        CoachesVote w = Check.told(RING, "+++", "2b1;2b1;2b1");
        Check.same("any one to the head", w.reseat(1), 1);
        Check.row("the least", w, 0, 0);
        Check.same("none there", new CoachesVote().reseat(3), 0);
    }

    private static void closes() {
        CoachesVote x = Check.told("3:b1c1;c1-;--", "++", "0c4;1b2");
        Check.same("as many as open", x.close(1), -3);
        Check.row("as many as open", x, 1);
        Check.same("a's right exit", x.close(2), 1);
        Check.row("both", x, 2);
        Check.same("still open", x.halt(0, 1), 2);
        Check.same("nothing changed", x.way(0, 2), 1);
        Check.same("0", x.close(0), -1);
        Check.same("13", x.close(13), -1);
        Check.row("as it was", x, 0, 2);
        CoachesVote y = Check.told("3:b1c1;c1-;--", "++", "0b2;1c4");
        Check.same("the first coach too", y.close(1), 1);
        Check.row("the first coach too", y, 1);
    }

    private static void fetches() {
        CoachesVote x = Check.told(RING, "bc+c", "");
        Check.same("round", x.fetch(0), 9);
        Check.row("round", x, 1, 2);
        Check.same("to c", x.fetch(2), 5);
        Check.row("to c", x, 1, 2);
        Check.same("to b, as short by 2, 1", x.fetch(1), 11);
        Check.row("the least", x, 1, 2);
        Check.same("none such", x.fetch(3), -1);
        Check.same("none such", x.fetch(-1), -1);
        x.go(0, 1);
        x.go(0, 1);
        Check.same("from c", x.fetch(2), 9);
        Check.row("as short by 2, 1", x, 1, 2);
        Check.same("to b", x.fetch(1), 6);
        Check.row("where it is, it is at once", x, 2, 1);
        CoachesVote y = Check.told(RING, "+", "");
        Check.same("none stand", y.fetch(2), 5);
        Check.row("none stand", y);
        CoachesVote z = Check.told("3:b1-;--;--", "ab", "");
        z.way(0, 1);
        Check.same("no way back", z.fetch(0), -2);
        Check.row("as it was", z, 0, 1);
        Check.same("ends there", z.fetch(1), 1);
        Check.row("ends there", z, 0, 1);
        Check.say(z, "c").coaches();
        Check.same("one can't be come to", z.fetch(1), -2);
    }

    private static void fetchLikeOnes() {
        // A star: all go out from a and back, so that all orders are as short.
        CoachesVote x = Check.told("4:b1c1;a1-;d1a1;a1-", "dcb", "");
        Check.same("star", x.fetch(0), 5);
        // b is 1 there and 1 back; a c d a is 3.
        Check.row("the least order", x, 1, 2, 3);
        // One way alone.
        CoachesVote y = Check.told("4:c2-;d1-;b3-;a1-", "dbc", "");
        Check.same("line", y.fetch(3), 6);
        Check.row("line", y, 2, 1, 3);
        // It comes by b on its way to c; b is gone to yet, and 1, 2 is as short as 2, 1.
        CoachesVote z = Check.told(RING, "cb", "");
        Check.same("either way", z.fetch(1), 11);
        Check.row("either way", z, 1, 2);
    }

    private static void laws() {
        CoachesVote x = Check.told(FORK, "++", "0b1;1c3");
        Check.same("the small ones have more", Check.say(x, "4-r").law(), 1);
        Check.row("both", x, 1, 0);
        Check.same("emptied", x.count(11), 0);
        Check.same("the rule is as it was", x.passenger(1, 3), 3);
        Check.say(x, "4-r").rule();
        Check.same("none", Check.say(x, "").law(), -1);
        Check.row("both", x, 0, 1);
        Check.same("likewise", Check.say(x, "r").law(), -1);
        Check.same("the same", Check.say(x, "4-r").law(), 0);
        Check.row("both", x, 1, 1);
        Check.same("fault at 0", Check.say(x, "z").law(), -10000);
        Check.same("ends too early", Check.say(x, "r+").law(), -10002);
        Check.same("too deep", Check.say(x, "(((((r").law(), -10004);
        Check.same("more than 40", Check.say(x, "-".repeat(80)).law(), -10040);
        Check.same("emptied", x.count(11), 0);
        Check.row("as it was", x, 1, 1);
        Check.same("nothing changed", x.count(3), 0);
        // Ten runs: 9 of standing still, and the tenth brings it there; one more would be too late.
        CoachesVote y = Check.told(FORK, "+", "0b1");
        Check.say(y, "0").rule();
        Check.same("the tenth run", Check.say(y, "n>8").law(), 1);
        Check.same("the eleventh run", Check.say(y, "n>9").law(), 0);
        Check.say(y, "n>8").rule();
        Check.same("the tenth run by the rule", Check.say(y, "0").law(), -1);
        Check.say(y, "n>9").rule();
        Check.same("the eleventh run by the rule", Check.say(y, "0").law(), 0);
    }

    private static void heads() {
        CoachesVote x = Check.told(FORK, "+++b", "0b1;1c9;3a1");
        Check.same("by passengers: right, and none arrives", x.ahead(1), 0);
        // Coaches: left, right, stay.
        Check.same("like ones: left", x.heads(1), 1);
        Check.row("at b", x, 1);
        Check.same("nothing changed", x.count(4), 0);
        Check.same("0", x.heads(0), -1);
        Check.same("31", x.heads(31), -1);
        Check.row("as it was", x, 1);
        CoachesVote y = Check.told(FORK, "+++", "0c1;1b9;2c1");
        Check.same("two are for right", y.heads(1), 1);
        Check.row("at c", y, 2);
        CoachesVote z = Check.told(FORK, "+++", "0b1");
        Check.same("two are to stay", z.heads(30), 0);
        Check.row("at a", z, 0);
        CoachesVote none = new CoachesVote();
        Check.same("without coaches", none.heads(2), 0);
        Check.row("without coaches", none, 0);
    }
}
