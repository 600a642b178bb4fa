import java.io.IOException;

/** The edges that 'Terms' names, each by its words. */
public final class TermsEdgesTest {
    /** From a: to b by left, to c by right, to d by no way. */
    private static final String FORK = "4:b1c1;--;--;--";
    private static final String TWELVE = "0b1;".repeat(11) + "0b1";

    public static void main(String[] args) throws IOException {
        Edges edges = new Edges("TermsEdgesTest");
        net(edges);
        coachesAndPassengers(edges);
        rule(edges);
        things(edges);
        votes(edges);
        runs(edges);
        rows(edges);
        edges.finish(Edges.TERMS, Edges.TERMS);
    }

    // ---- the net

    private static void net(Edges edges) {
        edges.test(0, "1 .. 9 of them", TermsEdgesTest::numberOfHalts)
            .test(0, "at first 1; written a .. i", TermsEdgesTest::letters)
            .test(0, "left (0) and right (1), each none, or to a HALT", TermsEdgesTest::exits)
            .test(0, "in MINUTES 1 .. 9", TermsEdgesTest::minutes)
            .test(0, "a text of at most 46 signs", TermsEdgesTest::netSigns)
            .test(0, "a digit (how many HALTS, not 0), :, then", TermsEdgesTest::netHead)
            .test(0, "with ; between, its left EXIT and its right one", TermsEdgesTest::between);
    }

    private static int netOf(String text) {
        return Check.say(new CoachesVote(), text).net();
    }

    private static String bare(int halts) {
        return halts + ":" + "--;".repeat(halts - 1) + "--";
    }

    private static void numberOfHalts() {
        for (int halts = 1; halts <= 9; halts++) {
            CoachesVote x = new CoachesVote();
            Check.same("halts", Check.say(x, bare(halts)).net(), halts);
            Check.same("halts", x.count(0), halts);
            int last = halts - 1;
            Check.same("the last halt", x.halt(last, 0), -1);
            Check.none("one more", () -> x.halt(last + 1, 0));
            Check.none("one ahead", () -> x.halt(-1, 0));
        }
        Check.same("0", netOf("0:"), -1);
        Check.same("the sign ahead of 0", netOf("/:--"), -1);
        Check.same("the sign behind 9", netOf("::--"), -1);
    }

    private static void letters() {
        Check.same("at first", new CoachesVote().count(0), 1);
        for (int halts = 1; halts <= 9; halts++) {
            String rest = bare(halts).substring(3);
            char last = (char) ('a' + halts - 1);
            Check.same("the first letter", netOf(halts + ":a1" + rest), halts);
            Check.same("the last letter " + last, netOf(halts + ":" + last + "1" + rest), halts);
            Check.same("the letter behind it", netOf(halts + ":" + (char) (last + 1) + "1" + rest), -3);
            Check.same("the sign ahead of a", netOf(halts + ":" + (char) ('a' - 1) + "1" + rest), -3);
            Check.same("a great letter", netOf(halts + ":A1" + rest), -3);
        }
    }

    private static void exits() {
        CoachesVote x = Check.told("2:-b7;a3-", "", "");
        int[][] due = {{-1, 1, 0, 7}, {0, -1, 3, 0}};
        for (int halt = 0; halt < 2; halt++) {
            for (int what = 0; what < 4; what++) {
                Check.same("halt " + halt + ", " + what, x.halt(halt, what), due[halt][what]);
            }
        }
        CoachesVote y = Check.told("1:a1a9", "", "");
        Check.same("to itself", y.halt(0, 0), 0);
        Check.same("both", y.halt(0, 1), 0);
    }

    private static void minutes() {
        for (int minutes = 1; minutes <= 9; minutes++) {
            CoachesVote x = Check.told("1:a" + minutes + "-", "", "");
            Check.same("minutes", x.halt(0, 2), minutes);
            Check.same("it takes them", x.go(0, 0), minutes);
        }
        Check.same("0", netOf("1:a0-"), -4);
        Check.same("the sign ahead of 0", netOf("1:a/-"), -4);
        Check.same("the sign behind 9", netOf("1:a:-"), -4);
        Check.same("two digits", netOf("1:a11-"), -5);
    }

    private static void netSigns() {
        String full = "9:" + "a1b2;".repeat(8) + "i9i9";
        String oneLess = "9:" + "a1b2;".repeat(8) + "i9-";
        Check.same("45 signs", netOf(oneLess), 9);
        Check.same("46 signs", netOf(full), 9);
        for (String more : new String[] {";", "-", "a", "1", "" + (char) 0}) {
            Check.same("47 signs, behind 46", netOf(full + more), -47);
            Check.same("46 signs, behind 45", netOf(oneLess + more), -46);
        }
        Check.same("80 signs", netOf(full + "-".repeat(34)), -47);
    }

    private static void netHead() {
        Check.same("empty", netOf(""), -1);
        Check.same("not 0", netOf("0:--"), -1);
        Check.same("ends behind the digit", netOf("1"), -2);
        Check.same("two digits", netOf("11:--"), -2);
        Check.same("the sign ahead of :", netOf("19--"), -2);
        Check.same("the sign behind :", netOf("1;--"), -2);
        Check.same("ends behind :", netOf("1:"), -3);
        Check.same("least", netOf("1:--"), 1);
    }

    private static void between() {
        Check.same("one exit alone", netOf("1:-"), -4);
        Check.same("three exits", netOf("1:---"), -5);
        Check.same("; at the end", netOf("1:--;"), -5);
        Check.same("; ahead of the first", netOf("1:;--"), -3);
        Check.same("; between the two", netOf("1:-;-"), -4);
        Check.same("none between halts", netOf("2:----"), -5);
        Check.same("one halt fewer", netOf("2:--"), -5);
        Check.same("as many", netOf("2:--;--"), 2);
        Check.same("one halt more", netOf("2:--;--;--"), -8);
        Check.same("two ;", netOf("2:--;;--"), -6);
    }

    // ---- coaches and passengers

    private static void coachesAndPassengers(Edges edges) {
        edges.test(0, "COACHES 0 .. (at most 6)", TermsEdgesTest::sixCoaches)
            .test(0, "each in THE TRAIN (in some order behind THE ENGINE), or standing at a HALT", TermsEdgesTest::whereCoachesAre)
            .test(0, "PASSENGERS 0 .. (at most 12)", TermsEdgesTest::twelvePassengers)
            .test(0, "in a COACH, or OUT; WANT (a HALT), RANK 1 .. 9", TermsEdgesTest::ranks)
            .test(0, "THE ENGINE is at a HALT (at first 0); NOW (minutes, at first 0)", TermsEdgesTest::atFirst)
            .test(0, "a text of at most 47 signs: LINES with ; between", TermsEdgesTest::passengerSigns)
            .test(0, "a digit (a COACH that is there)", TermsEdgesTest::coachesThatAreThere)
            .test(0, "a letter of a HALT (WANT), a digit (RANK, not 0)", TermsEdgesTest::wants);
    }

    private static void sixCoaches() {
        for (int there = 0; there <= 6; there++) {
            for (int more = 0; more <= 7; more++) {
                CoachesVote x = Check.told("2:b1-;--", "+".repeat(there), "");
                boolean fits = there + more <= 6;
                Check.same(there + " and " + more, Check.say(x, "b".repeat(more)).coaches(), fits ? more : there - 7);
                Check.same(there + " and " + more, x.count(1), fits ? there + more : there);
            }
        }
    }

    private static void whereCoachesAre() {
        CoachesVote x = Check.told("2:b1-;--", "+a+b+a", "");
        int[][] due = {{0, 0}, {0, -1}, {0, 1}, {1, -1}, {0, 2}, {0, -1}};
        for (int coach = 0; coach < 6; coach++) {
            Check.same("halt of " + coach, x.coach(coach, 0), due[coach][0]);
            Check.same("place of " + coach, x.coach(coach, 1), due[coach][1]);
        }
        Check.same("train", x.count(5), 0b010101);
        Check.same("standing", x.count(6), 0b101010);
        Check.same("two come to its end", x.couple(), 2);
        Check.same("behind the others", x.coach(1, 1), 3);
        Check.same("the last", x.coach(5, 1), 4);
    }

    private static void twelvePassengers() {
        for (int there = 0; there <= 12; there++) {
            for (int more = 1; more <= 13 - there; more++) {
                CoachesVote x = Check.told(FORK, "+", TWELVE.substring(0, Math.max(0, 4 * there - 1)));
                String lines = "0c9;".repeat(more).substring(0, 4 * more - 1);
                boolean fits = there + more <= 12;
                int fault = -1 - Math.min(47, 4 * (12 - there));
                Check.same(there + " and " + more, Check.say(x, lines).passengers(), fits ? more : fault);
                Check.same(there + " and " + more, x.count(2), fits ? there + more : there);
            }
        }
    }

    private static void ranks() {
        for (int rank = 1; rank <= 9; rank++) {
            CoachesVote x = Check.told(FORK, "+", "0b" + rank + ";0a" + rank);
            Check.same("rank", x.passenger(0, 2), rank);
            Check.same("in the coach", x.passenger(0, 0), 0);
            Check.same("rank of one that is out", x.passenger(1, 2), rank);
            Check.same("out", x.passenger(1, 0), -1);
        }
        CoachesVote y = Check.told(FORK, "+", "");
        Check.same("0", Check.say(y, "0b0").passengers(), -3);
        Check.same("the sign ahead of 0", Check.say(y, "0b/").passengers(), -3);
        Check.same("the sign behind 9", Check.say(y, "0b:").passengers(), -3);
        Check.same("two digits", Check.say(y, "0b10").passengers(), -4);
    }

    private static void atFirst() {
        CoachesVote x = new CoachesVote();
        Check.same("engine", x.count(4), 0);
        Check.same("now", x.count(3), 0);
        Check.same("engine at a", x.halt(0, 5), 1);
        CoachesVote y = Check.told(FORK, "", "");
        Check.same("engine at a", y.halt(0, 5), 1);
        Check.same("not at b", y.halt(1, 5), 0);
        Check.same("now", y.count(3), 0);
    }

    private static void passengerSigns() {
        CoachesVote x = Check.told(FORK, "+", "");
        for (String more : new String[] {";", "0", "b", ";0b1", "" + (char) 0}) {
            Check.same("48 signs and more", Check.say(x, TWELVE + more).passengers(), -48);
        }
        Check.same("46 signs", Check.say(x, TWELVE.substring(0, 46)).passengers(), -47);
        Check.same("; at the end", Check.say(x, "0b1;").passengers(), -5);
        Check.same("; ahead", Check.say(x, ";0b1").passengers(), -1);
        Check.same("two ;", Check.say(x, "0b1;;0b1").passengers(), -5);
        Check.same("none between", Check.say(x, "0b10b1").passengers(), -4);
        Check.same("none came", x.count(2), 0);
        Check.same("47 signs", Check.say(x, TWELVE).passengers(), 12);
    }

    private static void coachesThatAreThere() {
        for (int coaches = 0; coaches <= 6; coaches++) {
            CoachesVote x = Check.told(FORK, "+".repeat(coaches), "");
            for (int coach = 0; coach <= 9; coach++) {
                Check.same("coach " + coach + " of " + coaches, Check.say(x, coach + "b1").passengers(), coach < coaches ? 1 : -1);
            }
            Check.same("the sign ahead of 0", Check.say(x, "/b1").passengers(), -1);
            Check.same("the sign behind 9", Check.say(x, ":b1").passengers(), -1);
        }
    }

    private static void wants() {
        CoachesVote x = Check.told(FORK, "+", "");
        Check.same("the first halt", Check.say(x, "0a1").passengers(), 1);
        Check.same("the last halt", Check.say(x, "0d1").passengers(), 1);
        Check.same("the letter behind it", Check.say(x, "0e1").passengers(), -2);
        Check.same("the sign ahead of a", Check.say(x, "0`1").passengers(), -2);
        Check.same("wants a", x.passenger(0, 1), 0);
        Check.same("wants d", x.passenger(1, 1), 3);
        Check.same("rank 0", Check.say(x, "0a0").passengers(), -3);
    }

    // ---- the rule

    private static void rule(Edges edges) {
        edges.test(0, "THE RULE is a text of at most 40 signs (at first none: r)", TermsEdgesTest::ruleSigns)
            .test(0, "< > = bind least (two; 1 or 0; not one behind the other)", TermsEdgesTest::compares)
            .test(0, "then + - (from the left)", TermsEdgesTest::sums)
            .test(0, "then * / (from the left; by 0: 0; cut to 0)", TermsEdgesTest::products)
            .test(0, "then - ahead of a thing (any many)", TermsEdgesTest::minuses)
            .test(0, "a NUMBER of 1 to 3 digits", TermsEdgesTest::numbers)
            .test(0, "an EXPRESSION in ( ) (at most 4 in one another)", TermsEdgesTest::brackets);
    }

    /** VOTES by a rule of the first passenger, of RANK 5. */
    private static void value(String rule, int due) {
        CoachesVote x = Check.told("2:b7-;--", "+", "0b5");
        Check.same("rule " + rule, Check.say(x, rule).rule(), 0);
        Check.same("votes by " + rule, x.passenger(0, 3), due);
    }

    private static void wrong(String rule, int due) {
        Check.same("rule " + rule, Check.say(new CoachesVote(), rule).rule(), due);
    }

    private static void ruleSigns() {
        CoachesVote x = Check.told("2:b7-;--", "+", "0b5");
        Check.same("at first", x.passenger(0, 3), 5);
        String most = "r" + "+1".repeat(19);
        value(most, 24);
        value("-" + most, 14);
        Check.same("39 signs", most.length(), 39);
        wrong("-" + most + "+", -41);
        wrong("-" + most + "+1", -41);
        wrong("--" + most, -41);
        wrong("-" + most + "z", -41);
    }

    private static void compares() {
        value("r<4", 0);
        value("r<5", 0);
        value("r<6", 1);
        value("r>4", 1);
        value("r>5", 0);
        value("r>6", 0);
        value("r=4", 0);
        value("r=5", 1);
        value("r=6", 0);
        value("2+4<3*2", 0);
        value("2+4<3*2+1", 1);
        value("-1<0", 1);
        value("(r=5)+(r=5)", 2);
        value("(r<d)=(d>r)", 1);
        for (String first : new String[] {"<", ">", "="}) {
            for (String second : new String[] {"<", ">", "="}) {
                wrong("r" + first + "d" + second + "1", -4);
                wrong("r" + first + second + "1", -3);
                wrong("(r" + first + "d" + second + "1)", -5);
                wrong("(r" + first + "d)" + second + "1", 0);
                wrong("r" + first + "(d" + second + "1)", 0);
            }
            wrong(first, -1);
            wrong("r" + first, -3);
        }
    }

    private static void sums() {
        value("9-3-2", 4);
        value("9-3+2", 8);
        value("9-(3+2)", 4);
        value("9-2*3", 3);
        wrong("+1", -1);
        wrong("1+", -3);
        wrong("1++1", -3);
        wrong("1-+1", -3);
    }

    private static void products() {
        value("40/4/5", 2);
        value("40/(4/3)", 40);
        value("7/2*2", 6);
        value("7*2/4", 3);
        value("9/0", 0);
        value("0/0", 0);
        value("9/(r-5)+7", 7);
        value("9/0*3+1", 1);
        value("9/1", 9);
        value("50+9/-1", 41);
        value("50+7/2", 53);
        value("50+-7/2", 47);
        value("50+7/-2", 47);
        value("50+-7/-2", 53);
        value("50+-1/2", 50);
        wrong("*1", -1);
        wrong("/1", -1);
        wrong("1*", -3);
        wrong("1/", -3);
        wrong("1*/1", -3);
    }

    private static void minuses() {
        value("-r+9", 4);
        value("--r", 5);
        value("9--r", 14);
        value("9*--r", 45);
        int[] signs = {4, 14, 4, 14, 4, 14, 4, 14};
        for (int many = 1; many <= 8; many++) {
            value("9" + "-".repeat(many) + "r", signs[many - 1]);
        }
        value("9+2*-3", 3);
        value("-(r-9)", 4);
        value("-2*-3", 6);
        value("-".repeat(38) + "r", 5);
        value("9" + "-".repeat(38) + "r", 14);
        value("9" + "-".repeat(37) + "r", 4);
        wrong("-".repeat(39) + "r", 0);
        wrong("-".repeat(40) + "r", -41);
        wrong("-", -2);
        wrong("r-", -3);
    }

    private static void numbers() {
        value("0", 0);
        value("7", 7);
        value("42", 42);
        value("042", 42);
        value("000", 0);
        value("999-900", 99);
        value("999-901", 98);
        wrong("1234", -4);
        wrong("0001", -4);
        wrong("r+1234", -6);
        wrong("12 3", -3);
        wrong("1r", -2);
        wrong("r1", -2);
        wrong("/", -1);
        wrong(":", -1);
    }

    private static void brackets() {
        value("(r)", 5);
        value("(((r)))", 5);
        value("((((r))))", 5);
        value("((((r))))+((((1))))", 6);
        value("((((r))+((1))))", 6);
        value("((((r)+1)+1)+1)", 8);
        wrong("(((((r)))))", -5);
        wrong("((((r))))+(((((1)))))", -15);
        wrong("((((-(r)))))", -6);
        wrong("()", -2);
        wrong("(r", -3);
        wrong("r)", -2);
        wrong("(r))", -4);
        wrong("((((r)))", -9);
        wrong("(r)(r)", -4);
        wrong("r(r)", -2);
        wrong("1(r)", -2);
    }

    // ---- things of a passenger

    private static void things(Edges edges) {
        edges.test(0, "r RANK, c its COACH", TermsEdgesTest::rankAndCoach)
            .test(0, "k how many are in its COACH", TermsEdgesTest::howMany)
            .test(0, "d MINUTES from its HALT to WANT by the shortest way (99 without)", TermsEdgesTest::distances)
            .test(0, "p its COACH's place in THE TRAIN (0 the first; 9 if it stands)", TermsEdgesTest::places)
            .test(0, "n NOW by 60 (rest)", TermsEdgesTest::nowBySixty)
            .test(0, "As ints, put to 0 .. 99: VOTES", TermsEdgesTest::asInts);
    }

    private static void votes(CoachesVote x, String rule, int... due) {
        Check.same("rule " + rule, Check.say(x, rule).rule(), 0);
        for (int i = 0; i < due.length; i++) {
            Check.same("votes of " + i + " by " + rule, x.passenger(i, 3), due[i]);
        }
    }

    private static void rankAndCoach() {
        CoachesVote x = Check.told(FORK, "++++++", "0b1;5b9;1b5");
        votes(x, "r", 1, 9, 5);
        votes(x, "c", 0, 5, 1);
    }

    private static void howMany() {
        votes(Check.told(FORK, "++", TWELVE), "k", 12, 12, 12, 12, 12, 12, 12, 12, 12, 12, 12, 12);
        CoachesVote x = Check.told(FORK, "++b", "0b1;1b1;1c1;2a1;0a1");
        votes(x, "k", 1, 2, 2, 1, 0);
        Check.same("walks", x.walk(1, 0), 1);
        votes(x, "k", 2, 2, 1, 1, 0);
    }

    private static void distances() {
        CoachesVote x = Check.told("9:b9-;c9-;d9-;e9-;f9-;g9-;h9-;i9-;--", "+bi", "0i1;0b1;1i1;1a1;2h1");
        votes(x, "d", 72, 9, 63, 99, 99);
        votes(x, "d-98", 0, 0, 0, 1, 1);
        votes(Check.told("3:b1c5;c3-;--", "+", "0b1;0c1"), "d", 1, 4);
        votes(Check.told("3:b2c5;c3-;--", "+", "0b1;0c1"), "d", 2, 5);
        votes(Check.told("3:b2c4;c3-;--", "+", "0b1;0c1"), "d", 2, 4);
    }

    private static void places() {
        CoachesVote x = Check.told(FORK, "+a++b+", "0b1;1b1;2b1;3b1;4c1;5c1");
        votes(x, "p", 0, 9, 1, 2, 9, 3);
        x.couple();
        votes(x, "p", 0, 4, 1, 2, 9, 3);
        x.cut(4);
        votes(x, "p", 0, 9, 9, 9, 9, 9);
        votes(Check.told(FORK, "++++++", "5b1"), "p", 5);
    }

    private static void nowBySixty() {
        CoachesVote x = Check.told(FORK, "+", "0b1");
        votes(x, "n", 0);
        x.stand(1);
        votes(x, "n", 1);
        x.stand(57);
        votes(x, "n", 58);
        x.stand(1);
        votes(x, "n", 59);
        x.stand(1);
        votes(x, "n", 0);
        x.stand(1);
        votes(x, "n", 1);
        x.stand(58);
        votes(x, "n", 59);
        x.stand(1);
        votes(x, "n", 0);
    }

    private static void asInts() {
        value("0-1", 0);
        value("0", 0);
        value("1", 1);
        value("98", 98);
        value("99", 99);
        value("100", 99);
        value("999", 99);
        // 2 to the 31st is the first that wraps.
        value("512*512*512*8", 99);
        value("512*512*512*8*2", 0);
        value("512*512*512*16-1", 99);
        value("512*512*512*16<0", 1);
        value("512*512*512*16-1>0", 1);
        value("512*512*512*32", 0);
        value("512*512*512*32+7", 7);
        value("(512*512*512*16)/-1<0", 1);
        value("-(512*512*512*16)<0", 1);
    }

    // ---- wishes and votes

    private static void votes(Edges edges) {
        edges.test(0, "A PASSENGER WISHES, where its COACH is (THE ENGINE's HALT, if it is in THE TRAIN)", TermsEdgesTest::fromWhere)
            .test(0, "to stay (2), if that is WANT, or if there is no way from there to WANT", TermsEdgesTest::noWay)
            .test(0, "else the EXIT that begins a shortest way to WANT (left, if both do)", TermsEdgesTest::bothBegin)
            .test(0, "the most VOTES together (of like ones the first of left, right, stay; stay, if all are 0)", TermsEdgesTest::likeVotes)
            .test(0, "THE TRAIN's VOTE: likewise by all PASSENGERS of its COACHES", TermsEdgesTest::trainVotes);
    }

    private static void fromWhere() {
        CoachesVote x = Check.told("3:b1c1;c1a1;a1b1", "+b", "0c1;1a1");
        Check.same("from a right", x.passenger(0, 4), 1);
        Check.same("from b right", x.passenger(1, 4), 1);
        x.go(0, 1);
        Check.same("from b left", x.passenger(0, 4), 0);
        Check.same("still from b", x.passenger(1, 4), 1);
        x.go(0, 0);
        Check.same("it stands at b", x.passenger(0, 4), 0);
    }

    private static void noWay() {
        CoachesVote x = Check.told(FORK, "+b", "0d1;1a1;0b1;0c1;0a1");
        Check.same("no way to d", x.passenger(0, 4), 2);
        Check.same("no exits", x.passenger(1, 4), 2);
        Check.same("a way", x.passenger(2, 4), 0);
        Check.same("a way", x.passenger(3, 4), 1);
        Check.same("where it wants to be, it is out", x.passenger(4, 4), -1);
    }

    private static void bothBegin() {
        int[] due = {0, 0, 1};
        for (int byLeft = 1; byLeft <= 3; byLeft++) {
            CoachesVote x = Check.told("2:b" + byLeft + "b2;--", "+", "0b1");
            Check.same("left in " + byLeft + ", right in 2", x.passenger(0, 4), due[byLeft - 1]);
            CoachesVote y = Check.told("4:b" + byLeft + "c1;d1-;d2-;--", "+", "0d1");
            Check.same("left in " + (byLeft + 1) + ", right in 3", y.passenger(0, 4), due[byLeft - 1]);
        }
        Check.same("right alone", Check.told("2:-b9;--", "+", "0b1").passenger(0, 4), 1);
        Check.same("left alone", Check.told("2:b9-;--", "+", "0b1").passenger(0, 4), 0);
    }

    private static final int[][] LIKE_ONES = {{3, 3, 0, 0}, {3, 4, 0, 1}, {4, 3, 0, 0}, {0, 3, 3, 1}, {0, 3, 4, 2}, {0, 4, 3, 1},
        {3, 0, 3, 0}, {3, 0, 4, 2}, {4, 0, 3, 0}, {2, 2, 2, 0}, {2, 3, 3, 1}, {3, 2, 3, 0}, {3, 3, 2, 0}, {3, 3, 4, 2},
        {2, 3, 4, 2}, {1, 0, 0, 0}, {0, 1, 0, 1}, {0, 0, 1, 2}, {0, 0, 0, 2}};

    /** Those for left, right, stay, with these RANKS, in a coach or in three. */
    private static CoachesVote fork(int[] ranks, String coaches) {
        StringBuilder lines = new StringBuilder();
        for (int wish = 0; wish < 3; wish++) {
            if (ranks[wish] > 0) {
                lines.append(lines.length() > 0 ? ";" : "").append(coaches.charAt(wish)).append("bcd".charAt(wish)).append(ranks[wish]);
            }
        }
        return Check.told(FORK, "+++b", lines.toString());
    }

    private static void likeVotes() {
        for (int[] one : LIKE_ONES) {
            CoachesVote x = fork(one, "000");
            Check.same("vote", x.coach(0, 3), one[3]);
            for (int wish = 0; wish < 3; wish++) {
                Check.same("votes", x.coach(0, 4 + wish), one[wish]);
            }
            Check.same("rule", Check.say(x, "0").rule(), 0);
            Check.same("all are 0", x.coach(0, 3), 2);
        }
    }

    private static void trainVotes() {
        for (int[] one : LIKE_ONES) {
            CoachesVote x = fork(one, "012");
            Check.same("course", x.course(), one[3]);
            for (int wish = 0; wish < 3; wish++) {
                Check.same("votes", x.row(1 + wish), one[wish]);
            }
            Check.same("rule", Check.say(x, "0").rule(), 0);
            Check.same("all are 0", x.course(), 2);
        }
        CoachesVote y = Check.told(FORK, "+a", "0b1;1c9");
        Check.same("one that stands has none", y.course(), 0);
        Check.row("one that stands has none", y, 0, 1, 0, 0);
    }

    // ---- runs

    private static void runs(Edges edges) {
        edges.noEdge(0, "A RUN: (1) the course is THE TRAIN's VOTE.")
            .test(0, "If it is to stay, or that EXIT is none: NOW is 1 more, and nothing else", TermsEdgesTest::stays)
            .test(0, "go along from the first on till one comes whose VOTE is not the course: that one and all behind it stand",
                TermsEdgesTest::goAlong)
            .test(0, "THE ENGINE and those that go along are at that EXIT's HALT; NOW is its MINUTES more", TermsEdgesTest::arrive)
            .test(0, "PASSENGERS in COACHES at their WANT (of all COACHES, anywhere) are OUT", TermsEdgesTest::getOut);
    }

    private static void stays() {
        Looks.State[] staying = {CoachesVote::new, () -> Check.told(FORK, "", ""), () -> Check.told(FORK, "+++", ""),
            () -> Check.told(FORK, "+b", "0d5;1a9"), () -> Check.told(FORK, "aaa", "0b1;1c9")};
        for (Looks.State state : staying) {
            Check.same("stays", state.make().run(), 2);
            Looks.same("as standing for a minute", () -> {
                CoachesVote x = state.make();
                x.run();
                return x;
            }, () -> {
                CoachesVote x = state.make();
                x.stand(1);
                return x;
            }, false);
        }
    }

    private static void goAlong() {
        for (int other = 0; other <= 6; other++) {
            StringBuilder lines = new StringBuilder("0b9");
            for (int coach = 0; coach < 6; coach++) {
                lines.append(";").append(coach).append(coach == other ? "d1" : "b1");
            }
            CoachesVote x = Check.told(FORK, "++++++", lines.substring(other == 0 ? 4 : 0));
            int left = 0b111111 & -(1 << other);
            Check.same("left", x.run(), 0);
            Check.same("behind " + other, x.row(0), left);
            Check.same("behind " + other, x.count(5), 0b111111 & ~left);
            Check.same("they stand at a", x.halt(0, 4), left);
            Check.same("none stands at b", x.halt(1, 4), 0);
            Check.same("the engine is at b", x.count(4), 1);
        }
    }

    private static void arrive() {
        for (int minutes = 1; minutes <= 9; minutes++) {
            CoachesVote x = Check.told("3:-c" + minutes + ";--;--", "++", "0c1;1c1");
            x.stand(50);
            Check.same("right", x.run(), 1);
            Check.row("both arrive", x, 0, 0b11, minutes);
            Check.same("now", x.count(3), 50 + minutes);
            Check.same("engine", x.count(4), 2);
            Check.same("first", x.coach(0, 0), 2);
            Check.same("second", x.coach(1, 1), 1);
        }
    }

    private static void getOut() {
        // By the exit from a to a all are where they were: nobody there wants to be there, so nobody gets out.
        CoachesVote x = Check.told("3:a1b1;--;--", "++a", "0b1;1b1;2b1;0a1");
        Check.same("one is out at once", x.count(7), 0b1000);
        Check.same("to a", x.go(0, 1), 1);
        Check.row("nobody", x, 0);
        Check.same("to b with the first", x.go(1, 1), 1);
        Check.row("the first alone", x, 0b0001);
        Check.same("the others stand at a", x.count(7), 0b1001);
    }

    // ---- rows, refused calls

    private static void rows(Edges edges) {
        edges.test(0, "ROW: numbers told last by a call that says so", TermsEdgesTest::toldLast)
            .test(0, "Sets are bits", TermsEdgesTest::bits)
            .test(0, "Rows are compared from the first number on", TermsEdgesTest::leastRow)
            .test(0, "Fractions are told in lowest terms, upper and lower number (0 by 1)", TermsEdgesTest::fractions)
            .test(0, "Questions change nothing", TermsEdgesTest::questions)
            .test(0, "Refused calls answer NONE, or false, and change nothing but THE TEXT, which a call that reads it empties",
                TermsEdgesTest::refusedCalls);
    }

    private static void toldLast() {
        CoachesVote x = new CoachesVote();
        Check.row("none at first", x);
        Check.same("one number", x.heads(1), 0);
        Check.row("one number", x, 0);
        Check.same("four numbers", x.course(), 2);
        Check.row("four numbers", x, 0, 0, 0, 0);
        Check.same("two numbers", x.bargain(3), 5);
        Check.row("two numbers", x, 0, 3);
        Check.same("a call that says nothing of it", x.stand(1), 1);
        Check.row("two numbers", x, 0, 3);
        Check.same("none", x.fetch(0), 0);
        Check.row("none", x);
        // Nothing is left of the row before, which has twelve numbers.
        Looks.Call[] calls = {CoachesVote::run, y -> y.go(0, 0), y -> y.way(0, 0), CoachesVote::course, y -> y.ahead(1), y -> y.arrives(0),
            y -> y.tips(0), y -> y.power(0), y -> y.lobby(0, 0), y -> y.seat(0), y -> y.reseat(1), y -> y.close(1), y -> y.fetch(0),
            y -> Check.say(y, "").law(), y -> y.heads(1), y -> y.been(0), CoachesVote::ask, y -> y.odds(0, 0, 0), y -> y.bargain(1),
            y -> y.nights(0, 1), y -> Check.say(y, "").night()};
        int[] numbers = {3, 1, 1, 4, 3, 1, 1, 2, 1, 1, 2, 1, 0, 2, 1, 1, 1, 2, 2, 2, 2};
        for (int i = 0; i < calls.length; i++) {
            CoachesVote y = Check.told("2:b1-;a1-", "+", "0b1");
            y.seen(12, 0, 1);
            Check.same("one row", y.rows(), 1);
            Check.same("of twelve", y.count(10), 12);
            Check.yes("call " + i, calls[i].on(y) != -1);
            Check.same("numbers told by call " + i, y.count(10), numbers[i]);
        }
    }

    private static void bits() {
        CoachesVote x = Check.told(FORK, "a+++++", "0b1;".repeat(11) + "5b1");
        Check.same("all but the first", x.count(5), 0b111110);
        Check.same("the first", x.count(6), 0b000001);
        Check.same("eleven", x.coach(0, 2), 0x7ff);
        Check.same("the twelfth", x.coach(5, 2), 0x800);
    }

    private static void leastRow() {
        // a c d b is longer than a d b as a row, but c is less than d.
        CoachesVote x = Check.told("4:c1d2;--;d1-;b1-", "", "");
        Check.same("as short ones", x.way(0, 1), 3);
        Check.row("the least", x, 0, 2, 3, 1);
    }

    private static void fractions() {
        CoachesVote x = Check.told(FORK, "++", "0b1;0b1");
        x.odds(0, 0, 5);
        Check.row("6 by 8", x, 3, 4);
        x.odds(0, 1, 5);
        Check.row("0", x, 0, 1);
        x.odds(0, 0, 0);
        Check.row("100 by 100", x, 1, 1);
        Check.say(x, "0").rule();
        Check.same("no power", x.power(0), 0);
        Check.row("0 by 2", x, 0, 1);
    }

    private static void questions() {
        Looks.State busy = Looks::busy;
        Looks.asked("halt", busy, x -> x.halt(0, 4), 0b1100);
        Looks.asked("coach", busy, x -> x.coach(0, 3), 0);
        Looks.asked("passenger", busy, x -> x.passenger(5, 4), -1);
        Looks.asked("way", busy, x -> x.way(3, 3), 0);
        Looks.asked("course", busy, CoachesVote::course, 0);
        Looks.asked("ahead", busy, x -> x.ahead(30), 3);
        Looks.asked("arrives", busy, x -> x.arrives(0), 1);
        Looks.asked("tips", busy, x -> x.tips(0), 0b10);
        Looks.asked("power", busy, x -> x.power(1), 2);
        Looks.asked("lobby", busy, x -> x.lobby(0, 1), 1);
        Looks.asked("seat", busy, x -> x.seat(6), 0);
        Looks.asked("reseat", busy, x -> x.reseat(12), 3);
        Looks.asked("close", busy, x -> x.close(12), -3);
        Looks.asked("fetch", busy, x -> x.fetch(2), 16);
        Looks.asked("heads", busy, x -> x.heads(30), 3);
        Looks.asked("rows", busy, CoachesVote::rows, 1);
        Looks.asked("been", busy, x -> x.been(1), 0b1000);
        Looks.asked("ask", busy, CoachesVote::ask, 0);
        Looks.asked("odds", busy, x -> x.odds(0, 0, 5), 0);
        Looks.asked("bargain", busy, x -> x.bargain(20), 22);
        Looks.asked("nights", busy, x -> x.nights(0, 1), 2);
        Looks.asked("count", busy, x -> x.count(9), 3);
        Looks.asked("row", busy, x -> x.row(2), 3);
        // law() reads THE TEXT, and empties it.
        Looks.askedText("law", busy, "9-r", CoachesVote::law, 0);
    }

    private static void refusedCalls() {
        Looks.State busy = Looks::busy;
        Looks.refused("sheet", busy, x -> x.sheet(4, 1, 1, 1), -1);
        Looks.refused("go", busy, x -> x.go(2, 0), -1);
        Looks.refused("cut", busy, x -> x.cut(3), -1);
        Looks.refused("walk", busy, x -> x.walk(7, 0), -1);
        Looks.refused("stand", busy, x -> x.stand(100), -1);
        Looks.refused("end", busy, x -> x.end(4) ? 1 : 0, 0);
        Looks.refused("keep", busy, x -> x.keep(3) ? 1 : 0, 0);
        Looks.refused("again", busy, x -> x.again(1) ? 1 : 0, 0);
        Looks.refusedText("net", busy, "4:b3c5;d2-;--;a9", CoachesVote::net, -17);
        Looks.refusedText("coaches", busy, "++", CoachesVote::coaches, -2);
        Looks.refusedText("passengers", busy, "0b1;0b", CoachesVote::passengers, -7);
        Looks.refusedText("rule", busy, "r+", CoachesVote::rule, -3);
        Looks.refusedText("night", busy, "s1rz", CoachesVote::night, -4);
        Looks.refusedText("law", busy, "r+", CoachesVote::law, -10002);
    }
}
