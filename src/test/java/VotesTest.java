/** Promises 20 to 26: way, course, ahead, arrives, tips, power, lobby. */
public final class VotesTest {
    private static final String RING = "3:b2-;c3-;a4-";
    private static final String FORK = "3:b1c2;--;--";

    public static void main(String[] args) {
        ways();
        courses();
        aheads();
        arrivals();
        tipping();
        powers();
        lobbies();
        lobbyLikeOnes();
        Check.finish("VotesTest");
    }

    private static void ways() {
        CoachesVote x = Check.told("4:c1b1;d1-;d1a9;--", "", "");
        Check.same("two as short ones", x.way(0, 3), 2);
        Check.row("the least row, though left goes to c", x, 0, 1, 3);
        Check.same("the same halt", x.way(2, 2), 0);
        Check.row("the same halt", x, 2);
        Check.same("by a", x.way(2, 1), 10);
        Check.row("by a", x, 2, 0, 1);
        Check.same("none", x.way(3, 0), -2);
        Check.same("none such", x.way(4, 0), -1);
        Check.same("none such", x.way(0, 4), -1);
        Check.same("none such", x.way(-1, 0), -1);
        Check.row("as it was", x, 2, 0, 1);
        CoachesVote y = Check.told("3:b9c1;--;b7-", "", "");
        Check.same("round about", y.way(0, 1), 8);
        Check.row("round about", y, 0, 2, 1);
        CoachesVote z = Check.told("3:c5b2;c3-;--", "", "");
        Check.same("as short ones of other lengths", z.way(0, 2), 5);
        Check.row("as short ones of other lengths", z, 0, 1, 2);
        CoachesVote w = Check.told("9:b9-;c9-;d9-;e9-;f9-;g9-;h9-;i9-;a9-", "", "");
        Check.same("all", w.way(0, 8), 72);
        Check.row("all", w, 0, 1, 2, 3, 4, 5, 6, 7, 8);
    }

    private static void courses() {
        CoachesVote x = Check.told(FORK, "+++b", "0c3;1b4;2c2;3a9");
        Check.same("right", x.course(), 1);
        Check.row("right", x, 0b110, 4, 5, 0);
        Check.same("nothing changed", x.count(4), 0);
        Check.same("nothing changed", x.count(3), 0);
        Check.same("nothing to undo", x.count(9), 0);
        x.go(0, 0);
        Check.same("without passengers", x.course(), 2);
        Check.row("without passengers", x, 0, 0, 0, 0);
        // From b there is no way on.
        x.couple();
        Check.same("stays", x.course(), 2);
        Check.row("stays: none is left", x, 0, 0, 0, 9);
    }

    private static void aheads() {
        CoachesVote x = Check.told(RING, "++", "0c5;1b1;0a9");
        int[][] due = {{1, 0, 0, 3}, {2, 1, 2, 3}, {3, 2, 5, 1}};
        Check.same("one out by now", x.count(7), 0b100);
        for (int n = 0; n < 3; n++) {
            Check.same("ahead " + n, x.ahead(n), due[n][0] - 1);
            Check.row("ahead " + n, x, due[n][1], due[n][2], due[n][3]);
        }
        Check.same("all the time", x.ahead(30), 2);
        Check.row("all the time", x, 2, 33, 1);
        Check.same("31", x.ahead(31), -1);
        Check.same("-1", x.ahead(-1), -1);
        Check.row("refused", x, 2, 33, 1);
        Check.same("nothing changed", x.count(4), 0);
        Check.same("nothing to undo", x.count(9), 0);
        // NOW counts in the rule as it goes on: from minute 2 on the second one has votes.
        CoachesVote y = Check.told(FORK, "++", "0b1;1c1");
        Check.say(y, "(c=1)*(n>1)").rule();
        Check.same("later", y.ahead(2), 0);
        Check.row("two minutes", y, 0, 2, 3);
        Check.same("then", y.ahead(3), 0);
        Check.row("the first votes to stay: alone", y, 2, 4, 0);
    }

    private static void arrivals() {
        CoachesVote x = Check.told(RING, "++a", "0c5;1b1;0a9;2b1");
        Check.same("in two", x.arrives(0), 2);
        Check.row("in two", x, 5);
        Check.same("in one", x.arrives(1), 1);
        Check.row("in one", x, 2);
        Check.same("out", x.arrives(2), 0);
        Check.row("out", x, 0);
        Check.same("never", x.arrives(3), -2);
        Check.same("none such", x.arrives(4), -1);
        Check.same("none such", x.arrives(-1), -1);
        Check.row("as it was", x, 0);
        Check.same("nothing changed", x.count(7), 0b100);
        // By the rule nobody votes till 29 minutes went by; the 30th run brings it there.
        CoachesVote y = Check.told(RING, "+", "0b5");
        Check.say(y, "n>28").rule();
        Check.same("in 30", y.arrives(0), 30);
        Check.row("in 30", y, 31);
        Check.say(y, "n>29").rule();
        Check.same("not in 30", y.arrives(0), -2);
    }

    private static void tipping() {
        CoachesVote x = Check.told(FORK, "+++b", "0b3;0c3;1b2;1b2;1c3;3a1");
        Check.same("like ones: the left one alone", x.tips(0), 0b01);
        Check.row("one", x, 1);
        Check.same("either of the left ones", x.tips(1), 0b01100);
        Check.row("two", x, 2);
        Check.same("empty", x.tips(2), 0);
        Check.row("empty", x, 0);
        Check.same("one that stands and is alone", x.tips(3), 0b100000);
        Check.same("none such", x.tips(4), -1);
        Check.same("none such", x.tips(-1), -1);
        Check.row("as it was", x, 1);
        Check.say(x, "r-2").rule();
        Check.same("without votes nobody tips", x.tips(1), 0b10000);
        Check.say(x, "0").rule();
        Check.same("all 0", x.tips(0), 0);
        CoachesVote y = Check.told(FORK, "+", "0b9;0c1;0c2");
        Check.same("the great one", y.tips(0), 0b001);
    }

    private static void powers() {
        CoachesVote x = Check.told("4:b3c5;d2-;--;a9-", "+++a", "0d2;0c1;1c4;2b1;3d9;0a1");
        Check.same("the great one", x.power(2), 7);
        Check.row("the great one", x, 7, 8);
        Check.same("a small one", x.power(0), 1);
        Check.row("a small one", x, 1, 8);
        Check.same("stands", x.power(4), -2);
        Check.same("out", x.power(5), -2);
        Check.same("none such", x.power(6), -1);
        Check.same("none such", x.power(-1), -1);
        Check.row("as it was", x, 1, 8);
        CoachesVote three = Check.told(RING, "+", "0b1;0b1;0c1");
        Check.same("of three", three.power(0), 2);
        Check.row("of three", three, 1, 2);
        CoachesVote two = Check.told(RING, "++", "0b1;1c1");
        Check.same("of two like ones", two.power(1), 1);
        Check.row("of two like ones", two, 1, 2);
        CoachesVote one = Check.told(RING, "+", "0b1");
        Check.same("alone", one.power(0), 1);
        Check.row("alone", one, 1, 1);
        Check.say(one, "0").rule();
        Check.same("without votes", one.power(0), 0);
        Check.row("without votes", one, 0, 1);
        // Of twelve like ones: 6 or more are for left, 5 without it: 11 over 5.
        CoachesVote many = Check.told(RING, "+", "0b1;".repeat(11) + "0c1");
        Check.same("of twelve", many.power(11), 462);
        Check.row("of twelve", many, 231, 1024);
    }

    private static void lobbies() {
        CoachesVote x = Check.told(FORK, "++b", "0b2;0b2;0c3;2a9");
        Check.same("as it is", x.lobby(0, 0), 0);
        Check.row("as it is", x, 0);
        Check.same("right", x.lobby(0, 1), 1);
        Check.row("the first of two", x, 0b001);
        Check.same("stay", x.lobby(0, 2), 2);
        Check.row("the least of two", x, 0b011);
        Check.same("empty stays", x.lobby(1, 2), 0);
        Check.row("empty stays", x, 0);
        Check.same("empty can't go", x.lobby(1, 0), -2);
        Check.same("one that stands", x.lobby(2, 1), 1);
        Check.row("one that stands", x, 0b1000);
        Check.same("no such wish", x.lobby(0, 3), -1);
        Check.same("no such wish", x.lobby(0, -1), -1);
        Check.same("no such coach", x.lobby(3, 0), -1);
        Check.same("no such coach", x.lobby(-1, 0), -1);
        Check.row("as it was", x, 0b1000);
        Check.say(x, "0").rule();
        Check.same("without votes", x.lobby(0, 1), -2);
        Check.same("without votes they stay", x.lobby(0, 2), 0);
    }

    private static void lobbyLikeOnes() {
        // Left needs as many, stay needs more.
        CoachesVote x = Check.told(FORK, "+", "0c2;0c1;0c1");
        Check.same("left with as many", x.lobby(0, 0), 1);
        Check.row("left with as many", x, 0b001);
        Check.same("stay with more", x.lobby(0, 2), 2);
        Check.row("stay with more", x, 0b011);
        // One of the great ones later on rather than two at first.
        CoachesVote y = Check.told(FORK, "+", "0c1;0c1;0c5");
        Check.same("one great one", y.lobby(0, 0), 1);
        Check.row("one great one", y, 0b100);
    }
}
