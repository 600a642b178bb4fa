/** Promises 1 to 11: a new object, texts, the net, coaches, passengers, the rule, sheets. */
public final class NetTest {
    private static final String NET = "4:b3c5;d2-;--;a9-";

    public static void main(String[] args) {
        newObject();
        signs();
        nets();
        netForgets();
        coachTexts();
        passengerTexts();
        ruleFaults();
        ruleValues();
        ruleThings();
        halts();
        coachAnswers();
        passengerAnswers();
        sheets();
        Check.finish("NetTest");
    }

    private static void newObject() {
        CoachesVote x = new CoachesVote();
        Check.same("halts", x.count(0), 1);
        for (int what = 1; what < 12; what++) {
            Check.same("new: count " + what, x.count(what), 0);
        }
        Check.same("left exit", x.halt(0, 0), -1);
        Check.same("right exit", x.halt(0, 1), -1);
        Check.same("engine", x.halt(0, 5), 1);
        Check.none("coach", () -> x.coach(0, 0));
        Check.none("passenger", () -> x.passenger(0, 0));
        Check.row("new", x);
        Check.same("NONE", CoachesVote.NONE, -1);
    }

    private static void signs() {
        CoachesVote x = new CoachesVote();
        Check.same("highest byte first", x.sign(0x313a2d2d), 4);
        Check.same("it is 1:--", x.net(), 1);
        Check.same("emptied", x.count(11), 0);
        for (int i = 1; i <= 20; i++) {
            Check.same("sign", x.sign(-1), 4 * i);
        }
        Check.same("no room", x.sign(0), -1);
        Check.same("still 80", x.count(11), 80);
        Check.no("81", x.end(81));
        Check.no("-1", x.end(-1));
        Check.no("least int", x.end(Integer.MIN_VALUE));
        Check.same("still 80", x.count(11), 80);
        Check.yes("80", x.end(80));
        Check.yes("77", x.end(77));
        Check.same("77 signs", x.count(11), 77);
        Check.same("would be 81", x.sign(0), -1);
        Check.yes("76", x.end(76));
        Check.same("80 again", x.sign(0x61626364), 80);
        Check.yes("none", x.end(0));
        Check.same("none", x.count(11), 0);
        Check.no("not so many", x.end(1));
    }

    private static void net(String text, int due) {
        CoachesVote x = new CoachesVote();
        Check.same("net " + text, Check.say(x, text).net(), due);
        Check.same("net empties the text", x.count(11), 0);
        Check.same("halts behind net " + text, x.count(0), due > 0 ? due : 1);
    }

    private static void nets() {
        net("", -1);
        net("0", -1);
        net("a", -1);
        net("1", -2);
        net("1;", -2);
        net("1:", -3);
        net("1:a", -4);
        net("1:a0", -4);
        net("1:aa", -4);
        net("1:b1-", -3);
        net("1:A1-", -3);
        net("1:-", -4);
        net("1:--", 1);
        net("1:a9a1", 1);
        net("1:--;", -5);
        net("1:---", -5);
        net("2:--", -5);
        net("2:--:", -5);
        net("2:--;", -6);
        net("2:--;b1", -8);
        net("2:--;b1c", -8);
        net("2:--;b1b9", 2);
        net("3:b1c2;d1", -8);
        String full = "9:" + "a1b2;".repeat(8) + "i9i9";
        Check.same("46 signs", full.length(), 46);
        net(full, 9);
        net(full + ";", -47);
        net(full + (char) 255, -47);
        net(full + ";".repeat(34), -47);
        net("9:" + "a1b2;".repeat(8) + "j9i9", -43);
    }

    /** What a refused net leaves, and what another one forgets. */
    private static void netForgets() {
        CoachesVote x = Check.told("2:b1-;a1-", "++", "0b1;1a2");
        Check.say(x, "7").rule();
        x.run();
        x.stand(3);
        x.keep(1);
        x.seen(1, 1, 1);
        x.way(0, 1);
        Check.same("refused", Check.say(x, "2:b1-;c1-").net(), -7);
        Check.same("engine", x.count(4), 1);
        Check.same("now", x.count(3), 4);
        Check.same("seen", x.count(8), 1);
        Check.same("undoable", x.count(9), 2);
        Check.same("coaches", x.count(1), 2);
        Check.same("exit", x.halt(0, 0), 1);
        Check.row("refused", x, 0, 1);
        Check.yes("kept", x.again(1));
        x.stand(1);
        Check.same("anew", Check.say(x, "3:c4-;--;--").net(), 3);
        for (int what = 1; what < 10; what++) {
            Check.same("count " + what, x.count(what), 0);
        }
        Check.same("exit", x.halt(0, 0), 2);
        Check.same("another exit", x.halt(1, 0), -1);
        Check.no("nothing kept", x.again(1));
        Check.same("nothing to undo", x.undo(), -1);
        Check.same("way", x.way(0, 2), 4);
        // The rule is not told to be forgotten.
        Check.say(x, "+").coaches();
        Check.say(x, "0c1").passengers();
        Check.same("votes by the rule", x.passenger(0, 3), 7);
    }

    private static void coachTexts() {
        CoachesVote x = Check.told(NET, "", "");
        Check.same("empty", Check.say(x, "").coaches(), 0);
        Check.same("mixed", Check.say(x, "b+d+").coaches(), 4);
        Check.same("train", x.count(5), 0b1010);
        Check.same("standing", x.count(6), 0b0101);
        Check.same("place", x.coach(1, 1), 0);
        Check.same("place", x.coach(3, 1), 1);
        Check.same("no halt e", Check.say(x, "ae").coaches(), -2);
        Check.same("no such sign", Check.say(x, "-").coaches(), -1);
        Check.same("no room", Check.say(x, "+a+").coaches(), -3);
        Check.same("a bad sign comes first", Check.say(x, "z++").coaches(), -1);
        Check.same("nothing of it came", x.count(1), 4);
        Check.same("emptied", x.count(11), 0);
        x.stand(5);
        x.keep(0);
        Check.same("empty", Check.say(x, "").coaches(), 0);
        Check.same("refused", Check.say(x, "++x").coaches(), -3);
        Check.same("nothing forgotten", x.count(9), 1);
        Check.yes("nothing forgotten", x.again(0));
        x.stand(5);
        Check.same("two more", Check.say(x, "c+").coaches(), 2);
        Check.same("undo forgotten", x.count(9), 0);
        Check.no("came since", x.again(0));
        Check.same("no room", Check.say(x, "+").coaches(), -1);
        CoachesVote y = new CoachesVote();
        Check.same("seven", Check.say(y, "+++++++").coaches(), -7);
        Check.same("eighty", Check.say(y, "a".repeat(80)).coaches(), -7);
        Check.same("six", Check.say(y, "++++++").coaches(), 6);
    }

    private static void passengers(String text, int due) {
        CoachesVote x = Check.told(NET, "++a", "0b1;1c2");
        Check.same("passengers " + text, Check.say(x, text).passengers(), due);
        Check.same("passengers behind " + text, x.count(2), due > 0 ? 2 + due : 2);
        Check.same("emptied", x.count(11), 0);
    }

    private static void passengerTexts() {
        passengers("", 0);
        passengers("0", -2);
        passengers("3a1", -1);
        passengers("a", -1);
        passengers("0e1", -2);
        passengers("01", -2);
        passengers("0d", -3);
        passengers("0d0", -3);
        passengers("0dd", -3);
        passengers("0d9", 1);
        passengers("0d9,", -4);
        passengers("0d9;", -5);
        passengers("0d9;0d9;3d1", -9);
        String ten = "0d9;".repeat(9) + "1c1";
        passengers(ten, 10);
        passengers(ten + ";", -41);
        passengers(ten + ";0d1", -41);
        passengers(ten + ";0d1;0e1;0d1;0d1", -41);
        CoachesVote x = Check.told(NET, "+", "");
        Check.same("above 47", Check.say(x, "0d9;".repeat(12)).passengers(), -48);
        Check.same("above 47, a fault ahead", Check.say(x, "0d9;".repeat(5) + "0d0" + ";0d9".repeat(9)).passengers(), -23);
        Check.same("twelve", Check.say(x, "0d9;".repeat(11) + "0d9").passengers(), 12);
        Check.same("no room", Check.say(x, "0d9").passengers(), -1);
        Check.same("empty is fine", Check.say(x, "").passengers(), 0);
        Check.same("without coaches", Check.say(new CoachesVote(), "0a1").passengers(), -1);

        CoachesVote y = Check.told(NET, "+c", "0a3;1c4;0b2;1a1");
        Check.same("out at once", y.count(7), 0b0011);
        y.stand(1);
        y.keep(2);
        Check.say(y, "").passengers();
        Check.say(y, "0b").passengers();
        Check.same("nothing forgotten", y.count(9), 1);
        Check.yes("nothing forgotten", y.again(2));
        y.stand(1);
        Check.say(y, "0b1").passengers();
        Check.same("undo forgotten", y.count(9), 0);
        Check.no("came since", y.again(2));
        Check.yes("kept anew", y.keep(2));
        Check.yes("kept anew", y.again(2));
    }

    private static void rule(String text, int due) {
        CoachesVote x = Check.told("2:b7-;--", "+", "0b5");
        Check.say(x, "8").rule();
        Check.same("rule " + text, Check.say(x, text).rule(), due);
        Check.same("emptied", x.count(11), 0);
        if (due != 0) {
            Check.same("the rule behind " + text, x.passenger(0, 3), 8);
        }
    }

    private static void ruleFaults() {
        rule("z", -1);
        rule("R", -1);
        rule(" r", -1);
        rule(")", -1);
        rule("+r", -1);
        rule("-", -2);
        rule("r+", -3);
        rule("r+*2", -3);
        rule("r r", -2);
        rule("2r", -2);
        rule("r2", -2);
        rule("rr", -2);
        rule("r(2)", -2);
        rule("(r)(2)", -4);
        rule("(2)3", -4);
        rule("123", 0);
        rule("1234", -4);
        rule("000", 0);
        rule("()", -2);
        rule("(r", -3);
        rule("(r))", -4);
        rule("r)", -2);
        rule("((((r))))", 0);
        rule("(((((r)))))", -5);
        rule("((((r))+(r)))-((((r))))", 0);
        rule("r<d<1", -4);
        rule("r<d=1", -4);
        rule("(r<d)<1", 0);
        rule("r<(d<1)", 0);
        rule("(r<d<1)", -5);
        rule("r<+d", -3);
        rule("r<-d", 0);
        rule("r<=d", -3);
        rule("-----r", 0);
        rule("r" + (char) 200, -2);
        String forty = "-r" + "+1".repeat(19);
        rule(forty, 0);
        rule(forty + "+", -41);
        rule(forty + "1", -41);
        rule(forty + "z".repeat(40), -41);
        rule("-".repeat(40), -41);
        rule("-".repeat(80), -41);
        rule("r+x" + "+1".repeat(38), -3);
        rule("r" + "+1".repeat(20), -41);
    }

    private static void value(CoachesVote x, String text, int due) {
        Check.same("rule " + text, Check.say(x, text).rule(), 0);
        Check.same("votes by " + text, x.passenger(0, 3), due);
    }

    private static void ruleValues() {
        CoachesVote x = Check.told("2:b7-;--", "+", "0b5");
        value(x, "r", 5);
        value(x, "42", 42);
        value(x, "007", 7);
        value(x, "r+d*2", 19);
        value(x, "(r+d)*2", 24);
        value(x, "9-4-3", 2);
        value(x, "9-(4-3)", 8);
        value(x, "60/7/2", 4);
        value(x, "60/(7/2)", 20);
        value(x, "60/7*2", 16);
        value(x, "8/0", 0);
        value(x, "8/0+3", 3);
        value(x, "8/(r-5)+1", 1);
        value(x, "-r+9", 4);
        value(x, "--r", 5);
        value(x, "---r", 0);
        value(x, "2--3", 5);
        value(x, "2-----3", 0);
        value(x, "9+2*-3", 3);
        value(x, "9+-7/2", 6);
        value(x, "9-7/-2", 12);
        value(x, "-(r-9)", 4);
        value(x, "r<d", 1);
        value(x, "r>d", 0);
        value(x, "r=5", 1);
        value(x, "r=6", 0);
        value(x, "5<5", 0);
        value(x, "5>5", 0);
        value(x, "r<d+1", 1);
        value(x, "2+r<d", 0);
        value(x, "(r<d)+(r=5)*8", 9);
        value(x, "(r<d)*3+(r>d)*7", 3);
        value(x, "99", 99);
        value(x, "100", 99);
        value(x, "999*999", 99);
        value(x, "0-1", 0);
        int wraps = 999 * 999 * 999 * 999;
        value(x, "999*999*999*999", Math.max(0, Math.min(99, wraps)));
        int turns = 999 * 999 * 999 * 9;
        value(x, "999*999*999*9/9/999/999", Math.max(0, Math.min(99, turns / 9 / 999 / 999)));
        value(x, "(0-128*256*256*256)/-1", 0);
        value(x, "(0-128*256*256*256)/-1<0", 1);
        value(x, "", 5);
    }

    private static void ruleThings() {
        CoachesVote x = Check.told("4:b7-;--;b3-;--", "++c", "1b5;1b6;0d2;2b1;2b9;2a3");
        value(x, "r", 5);
        value(x, "c", 1);
        value(x, "k", 2);
        value(x, "d", 7);
        value(x, "p", 1);
        x.stand(65);
        value(x, "n", 5);
        x.stand(55);
        value(x, "n", 0);
        Check.say(x, "p").rule();
        Check.same("place of the first", x.passenger(2, 3), 0);
        Check.same("place of one that stands", x.passenger(3, 3), 9);
        Check.say(x, "d").rule();
        Check.same("without a way", x.passenger(2, 3), 99);
        Check.same("from where it stands", x.passenger(3, 3), 3);
        Check.say(x, "d-90").rule();
        Check.same("99 without a way", x.passenger(5, 3), 9);
        Check.say(x, "k").rule();
        Check.same("three in it", x.passenger(4, 3), 3);
        Check.same("one in it", x.passenger(2, 3), 1);
        x.walk(0, 0);
        Check.same("one in it more", x.passenger(2, 3), 2);
    }

    private static void halts() {
        CoachesVote x = Check.told(NET, "+aac", "");
        int[][] due = {{1, 2, 3, 5, 0b0110, 1}, {3, -1, 2, 0, 0, 0}, {-1, -1, 0, 0, 0b1000, 0}, {0, -1, 9, 0, 0, 0}};
        for (int h = 0; h < 4; h++) {
            for (int what = 0; what < 6; what++) {
                Check.same("halt " + h + " " + what, x.halt(h, what), due[h][what]);
            }
        }
        Check.none("no halt 4", () -> x.halt(4, 0));
        Check.none("no halt -1", () -> x.halt(-1, 0));
        Check.none("no what 6", () -> x.halt(0, 6));
        Check.none("no what -1", () -> x.halt(0, -1));
        Check.none("least ints", () -> x.halt(Integer.MIN_VALUE, Integer.MIN_VALUE));
    }

    private static void coachAnswers() {
        CoachesVote x = Check.told(NET, "++b", "0d2;0c1;1c4;1a1;2d3;2a4;1c2");
        int[][] due = {{0, 0, 0b11, 0, 2, 1, 0}, {0, 1, 0b1000100, 1, 0, 6, 0}, {1, -1, 0b110000, 0, 7, 0, 0}};
        for (int c = 0; c < 3; c++) {
            for (int what = 0; what < 7; what++) {
                Check.same("coach " + c + " " + what, x.coach(c, what), due[c][what]);
            }
        }
        Check.none("no coach 3", () -> x.coach(3, 0));
        Check.none("no coach -1", () -> x.coach(-1, 0));
        Check.none("no what 7", () -> x.coach(0, 7));
        Check.none("no what -1", () -> x.coach(0, -1));

        // Like ones: left ahead of right ahead of stay; stay, if all are 0. From c there is no way.
        CoachesVote y = Check.told(NET, "+++c", "0b3;0c3;1c2;1c1;3a4;3b1");
        Check.same("like ones: left", y.coach(0, 3), 0);
        Check.same("right", y.coach(1, 3), 1);
        Check.same("empty: stay", y.coach(2, 3), 2);
        Check.same("no way: stay", y.coach(3, 3), 2);
        Check.same("no way: votes for stay", y.coach(3, 6), 5);
        Check.say(y, "0").rule();
        Check.same("all 0: stay", y.coach(0, 3), 2);
        CoachesVote z = Check.told("4:-c1;--;--;--", "+", "0c3;0b3");
        Check.same("like ones: right ahead of stay", z.coach(0, 3), 1);
    }

    private static void passengerAnswers() {
        CoachesVote x = Check.told(NET, "+c", "0d2;0c9;1d3;0a4");
        int[][] due = {{0, 3, 2, 2, 0}, {0, 2, 9, 9, 1}, {1, 3, 3, 3, 2}, {-1, 0, 4, 0, -1}};
        for (int i = 0; i < 4; i++) {
            for (int what = 0; what < 5; what++) {
                Check.same("passenger " + i + " " + what, x.passenger(i, what), due[i][what]);
            }
        }
        Check.none("no passenger 4", () -> x.passenger(4, 0));
        Check.none("no passenger -1", () -> x.passenger(-1, 0));
        Check.none("no what 5", () -> x.passenger(0, 5));
        Check.none("no what -1", () -> x.passenger(0, -1));
        // Both exits begin a shortest way to d: left. To c the right one alone is shortest.
        CoachesVote y = Check.told("4:b1c1;d1c1;d1-;--", "+", "0d1;0c1");
        Check.same("both: left", y.passenger(0, 4), 0);
        Check.same("right alone", y.passenger(1, 4), 1);
        // Two exits to the same halt: the shorter one.
        CoachesVote z = Check.told("2:b5b4;--", "+", "0b1");
        Check.same("shorter", z.passenger(0, 4), 1);
    }

    private static void ranks(CoachesVote x, int a, int b, int c) {
        Check.same("rank 0", x.passenger(0, 2), a);
        Check.same("rank 1", x.passenger(1, 2), b);
        Check.same("rank 2", x.passenger(2, 2), c);
    }

    private static void sheets() {
        CoachesVote x = Check.told(NET, "+", "0b5;0c5;0a5");
        Check.same("ints", x.sheet(2, 2, 4, 3), 12);
        ranks(x, 4, 7, 1);
        Check.same("n below 0", x.sheet(0, -1, 4, 3), -2);
        Check.same("n below 0", x.sheet(1, -7, 4, 3), -2);
        Check.same("n below 0", x.sheet(2, Integer.MIN_VALUE, 4, 3), -2);
        Check.same("another kind", x.sheet(4, 1, 4, 3), -1);
        Check.same("another kind first", x.sheet(-1, -1, 4, 3), -1);
        Check.same("n above 12", x.sheet(0, 13, 4, 3), -1);
        Check.same("n above 12 first", x.sheet(3, 13, 4, 3), -1);
        ranks(x, 4, 7, 1);
        Check.same("bytes have signs", x.sheet(0, 3, 127, 1), 11);
        ranks(x, 9, 1, 1);
        Check.same("bytes lose bits", x.sheet(0, 3, 261, 257), 18);
        ranks(x, 5, 6, 7);
        Check.same("shorts", x.sheet(1, 3, 32767, 1), 11);
        ranks(x, 9, 1, 1);
        Check.same("shorts lose bits", x.sheet(1, 2, 65536 + 3, 65537), 8);
        ranks(x, 3, 4, 1);
        Check.same("shorts of more than a byte", x.sheet(1, 1, 261, 0), 11);
        Check.same("ints wrap", x.sheet(2, 3, Integer.MAX_VALUE, 1), 11);
        Check.same("ints of more than a short", x.sheet(2, 1, 65536 + 3, 0), 11);
        Check.same("downwards", x.sheet(2, 3, 9, -3), 18);
        ranks(x, 9, 6, 3);
        Check.same("0 entries", x.sheet(2, 0, 9, 9), 3);
        ranks(x, 1, 1, 1);
        Check.same("more entries than passengers", x.sheet(2, 12, 2, 1), 9);
        ranks(x, 2, 3, 4);
        Check.same("missing", x.sheet(3, 2, 9, 9), -3);
        ranks(x, 1, 1, 1);
        x.sheet(2, 3, 5, 0);
        Check.same("missing, whatever n", x.sheet(3, -4, 9, 9), -3);
        ranks(x, 1, 1, 1);
        Check.same("of none", new CoachesVote().sheet(0, 12, 9, 9), 0);
        Check.same("missing of none", new CoachesVote().sheet(3, 0, 9, 9), -3);
    }
}
