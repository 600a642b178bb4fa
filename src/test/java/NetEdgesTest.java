import java.io.IOException;

/** The edges that promises 1 to 7 name: a new object, texts, the net, coaches, passengers, the rule. */
public final class NetEdgesTest {
    private static final String FORK = "4:b1c1;--;--;--";
    private static final String FULL_NET = "9:" + "a1b2;".repeat(8) + "i9i9";
    private static final String TWELVE = "0b1;".repeat(11) + "0b1";

    public static void main(String[] args) throws IOException {
        Edges edges = new Edges("NetEdgesTest");
        edges.test(1, "One HALT without EXITS; no COACHES, no PASSENGERS", NetEdgesTest::newObject);
        signs(edges);
        net(edges);
        coaches(edges);
        passengers(edges);
        rule(edges);
        edges.finish(1, 7);
    }

    /** Each sign of a right text, put wrong, is where the fault is; and nothing changes by it. */
    private static void eachSignWrong(String what, String text, Looks.Call reader, int firstFault) {
        for (int p = 0; p < text.length(); p++) {
            for (char bad : new char[] {'z', ' ', 0, 255}) {
                CoachesVote x = Check.say(Looks.busy(), text.substring(0, p) + bad + text.substring(p + 1));
                Check.same(what + " of " + text + ", wrong at " + p, reader.on(x), firstFault - p);
                Check.same("emptied", x.count(11), 0);
            }
        }
    }

    /** A right text that ends too early has its fault at its end. */
    private static void eachEndEarly(String what, String text, Looks.Call reader, int firstFault, int from) {
        for (int n = from; n < text.length(); n++) {
            CoachesVote x = Check.say(Looks.busy(), text.substring(0, n));
            Check.same(what + " of " + text.substring(0, n), reader.on(x), firstFault - n);
            Check.same("emptied", x.count(11), 0);
        }
    }

    // ---- promise 1

    private static void newObject() {
        CoachesVote x = new CoachesVote();
        int[] due = {1, 0, 0, 0, 0, 0, 0, 0, 0, 0, 0, 0};
        for (int what = 0; what < due.length; what++) {
            Check.same("count " + what, x.count(what), due[what]);
        }
        int[] halt = {-1, -1, 0, 0, 0, 1};
        for (int what = 0; what < halt.length; what++) {
            Check.same("halt 0, " + what, x.halt(0, what), halt[what]);
        }
        Check.none("halt 1", () -> x.halt(1, 0));
        Check.none("coach 0", () -> x.coach(0, 0));
        Check.none("passenger 0", () -> x.passenger(0, 0));
        Check.none("number 0 of the row", () -> x.row(0));
        for (int i = 0; i < 3; i++) {
            Check.no("nothing kept", x.again(i));
        }
        Check.same("nothing to undo", x.undo(), -1);
        Check.same("no left exit", x.go(0, 0), -2);
        Check.same("no right exit", x.go(1, 0), -2);
        Check.same("it has the halt's letter", Check.say(x, "a").coaches(), 1);
    }

    // ---- promises 2 and 3

    private static void signs(Edges edges) {
        edges.test(2, "Four signs come behind THE TEXT, of v the highest byte first: how many it has", NetEdgesTest::fourSigns)
            .test(2, "Refused: there would be more than 80", NetEdgesTest::eightySigns)
            .test(3, "THE TEXT has its first n signs alone: true", NetEdgesTest::firstSigns)
            .test(3, "false if it has not so many, or n is below 0", NetEdgesTest::notSoMany);
    }

    private static void fourSigns() {
        CoachesVote x = new CoachesVote();
        Check.same("four", x.sign('1' << 24 | ':' << 16 | '-' << 8 | '-'), 4);
        Check.same("in this order", x.net(), 1);
        // The fault tells which sign is which: of r, 255, 0, r the second one can't stand there.
        Check.same("four", x.sign('r' << 24 | 0x00ff0072), 4);
        Check.same("255", x.rule(), -2);
        Check.same("highest bit", x.sign(0x80000000 | 'r'), 4);
        Check.same("128", x.rule(), -1);
        Check.same("four", x.sign('r' << 24), 4);
        Check.same("signs of number 0 count", x.rule(), -2);
        Check.same("four", x.sign(-1), 4);
        Check.same("eight", x.sign(0), 8);
        Check.yes("five", x.end(5));
        Check.same("nine: behind THE TEXT", x.sign(1), 9);
    }

    private static Looks.State signsOf(int n) {
        return () -> Check.say(Looks.busy(), "r".repeat(n));
    }

    private static void eightySigns() {
        for (int n = 0; n <= 76; n++) {
            Check.same("behind " + n, signsOf(n).make().sign('r'), n + 4);
        }
        for (int n = 77; n <= 80; n++) {
            Looks.refused("behind " + n, signsOf(n), x -> x.sign('r'), -1);
        }
    }

    private static void firstSigns() {
        for (int n = 0; n <= 80; n++) {
            CoachesVote x = signsOf(80).make();
            Check.yes("first " + n, x.end(n));
            Check.same("first " + n, x.count(11), n);
        }
        CoachesVote y = Check.say(new CoachesVote(), "1:--;--");
        Check.yes("all", y.end(7));
        Check.yes("four", y.end(4));
        Check.same("the first ones", y.net(), 1);
        Check.yes("none of none", y.end(0));
    }

    private static void notSoMany() {
        for (int n : new int[] {0, 1, 3, 4, 79, 80}) {
            Looks.refused("one more than " + n, signsOf(n), x -> x.end(n + 1) ? 1 : 0, 0);
            Looks.refused("below 0", signsOf(n), x -> x.end(-1) ? 1 : 0, 0);
            Looks.refused("least", signsOf(n), x -> x.end(Integer.MIN_VALUE) ? 1 : 0, 0);
            Looks.refused("greatest", signsOf(n), x -> x.end(Integer.MAX_VALUE) ? 1 : 0, 0);
            Check.yes("as many", signsOf(n).make().end(n));
        }
    }

    // ---- promise 4

    private static void net(Edges edges) {
        edges.test(4, "THE TEXT is THE NET anew: how many HALTS", NetEdgesTest::netAnew)
            .test(4, "there are no COACHES, no PASSENGERS, THE ENGINE is at HALT 0, NOW is 0, nothing seen, nothing can be undone,"
                + " nothing is kept", NetEdgesTest::netForgets)
            .test(4, "-1 - p: the sign at p can't stand there", NetEdgesTest::netFaults)
            .test(4, "its end, if it ends too early", NetEdgesTest::netEnds)
            .test(4, "a letter of no HALT: at it", NetEdgesTest::netLetters)
            .test(4, "46, if it has more and the first 46 could go on or end", NetEdgesTest::netIsLong);
    }

    private static void netAnew() {
        CoachesVote x = Looks.busy();
        Check.same("nine", Check.say(x, FULL_NET).net(), 9);
        for (int halt = 0; halt < 9; halt++) {
            int[] due = halt < 8 ? new int[] {0, 1, 1, 2, 0} : new int[] {8, 8, 9, 9, 0};
            for (int what = 0; what < 5; what++) {
                Check.same("halt " + halt + ", " + what, x.halt(halt, what), due[what]);
            }
        }
        Check.same("one", Check.say(x, "1:--").net(), 1);
        Check.same("no left exit", x.halt(0, 0), -1);
        Check.same("no minutes", x.halt(0, 2), 0);
        Check.none("no second halt", () -> x.halt(1, 0));
        Check.same("no way of the net before", x.way(0, 0), 0);
        Check.same("two", Check.say(x, "2:--;--").net(), 2);
        Check.same("no way of the net before", x.way(0, 1), -2);
        Check.same("emptied", x.count(11), 0);
    }

    private static void netForgets() {
        CoachesVote x = Looks.busy();
        Check.same("the same net", Check.say(x, Looks.NET).net(), 4);
        for (int what = 1; what <= 9; what++) {
            Check.same("count " + what, x.count(what), 0);
        }
        Check.none("no coach", () -> x.coach(0, 0));
        Check.none("no passenger", () -> x.passenger(0, 0));
        Check.same("nothing to undo", x.undo(), -1);
        Check.same("nothing seen", x.rows(), -1);
        Check.same("nothing seen", x.forget(), 0);
        for (int i = 0; i < 3; i++) {
            Check.no("nothing kept", x.again(i));
        }
        Check.same("room for six coaches", Check.say(x, "++++++").coaches(), 6);
        Check.same("room for twelve passengers", Check.say(x, TWELVE).passengers(), 12);
        for (int i = 1; i <= 12; i++) {
            Check.same("room for twelve that were seen", x.seen(0, 0, 1), i);
        }
    }

    private static void netFaults() {
        eachSignWrong("net", "3:b1-;-c9;a2b3", CoachesVote::net, -1);
        eachSignWrong("net", FULL_NET, CoachesVote::net, -1);
        for (int p = 0; p < 7; p++) {
            String text = "2:b1-;--".substring(0, p) + "z" + "2:b1-;--".substring(p + 1);
            Looks.refusedText("net", Looks::busy, text, CoachesVote::net, -1 - p);
        }
        Looks.refusedText("net, a sign more", Looks::busy, "2:b1-;--;", CoachesVote::net, -9);
    }

    private static void netEnds() {
        eachEndEarly("net", FULL_NET, CoachesVote::net, -1, 0);
        eachEndEarly("net", "3:--;--;--", CoachesVote::net, -1, 0);
        Looks.refusedText("empty net", Looks::busy, "", CoachesVote::net, -1);
        Looks.refusedText("net", Looks::busy, FULL_NET.substring(0, 45), CoachesVote::net, -46);
    }

    private static void netLetters() {
        Looks.refusedText("net", Looks::busy, "2:b1c1;--", CoachesVote::net, -5);
        Looks.refusedText("net", Looks::busy, "2:c1b1;--", CoachesVote::net, -3);
        Looks.refusedText("net, the letter first, then the digit", Looks::busy, "2:c0", CoachesVote::net, -3);
        Looks.refusedText("net", Looks::busy, "9:--;--;--;--;--;--;--;--;-j1", CoachesVote::net, -28);
        Check.same("the last letter", Check.say(Looks.busy(), "9:--;--;--;--;--;--;--;--;-i1").net(), 9);
    }

    private static void netIsLong() {
        Check.same("46", Check.say(Looks.busy(), FULL_NET).net(), 9);
        for (int more = 1; more <= 34; more++) {
            for (String sign : new String[] {";", "z", "-"}) {
                CoachesVote x = Check.say(Looks.busy(), FULL_NET + sign.repeat(more));
                Check.same(more + " more", x.net(), -47);
                Check.same("emptied", x.count(11), 0);
            }
        }
        Looks.refusedText("net of 47", Looks::busy, FULL_NET + ";", CoachesVote::net, -47);
        Looks.refusedText("net of 80", Looks::busy, FULL_NET + "a".repeat(34), CoachesVote::net, -47);
        Looks.refusedText("a fault ahead comes first", Looks::busy, FULL_NET.substring(0, 45) + "0;", CoachesVote::net, -46);
        Looks.refusedText("it could not go on", Looks::busy, "1:--" + "-".repeat(76), CoachesVote::net, -5);
    }

    // ---- promise 5

    private static void coaches(Edges edges) {
        edges.test(5, "an empty one: nothing; at most 6 signs", NetEdgesTest::coachSigns)
            .test(5, "each letter one that stands at that HALT, each + one that comes to THE TRAIN's end: how many came",
                NetEdgesTest::coachesCome)
            .test(5, "the sign at p can't stand there (a letter of no HALT, one for which there is no room)", NetEdgesTest::coachFaults)
            .test(5, "Nothing of it comes, if one can't", NetEdgesTest::nothingComes);
    }

    private static void coachSigns() {
        Looks.refusedText("an empty one", Looks::busy, "", CoachesVote::coaches, 0);
        for (int n = 0; n <= 6; n++) {
            CoachesVote x = new CoachesVote();
            Check.same(n + " signs", Check.say(x, "+".repeat(n)).coaches(), n);
            Check.same(n + " coaches", x.count(1), n);
        }
        for (int n : new int[] {7, 8, 79, 80}) {
            Looks.refusedText(n + " signs", CoachesVote::new, "+".repeat(n), CoachesVote::coaches, -7);
        }
    }

    private static void coachesCome() {
        CoachesVote x = Check.told(FORK, "+", "");
        x.go(0, 1);
        Check.same("three", Check.say(x, "a+d").coaches(), 3);
        Check.same("at a", x.halt(0, 4), 0b0010);
        Check.same("at d", x.halt(3, 4), 0b1000);
        Check.same("at the train's end", x.coach(2, 1), 1);
        Check.same("where the engine is", x.coach(2, 0), 1);
        Check.same("one more", Check.say(x, "b").coaches(), 1);
        Check.same("it stands where the engine is", x.coach(4, 1), -1);
        Check.same("it stands where the engine is", x.halt(1, 4), 0b10000);
        Check.same("emptied", x.count(11), 0);
    }

    private static void coachFaults() {
        Looks.State none = () -> Check.told(FORK, "", "");
        Check.same("the last letter", Check.say(none.make(), "d").coaches(), 1);
        for (String bad : new String[] {"e", "`", "-", "A", "0", " ", ",", "*", "" + (char) 0, "" + (char) 255}) {
            Looks.refusedText("no such halt", none, bad, CoachesVote::coaches, -1);
            Looks.refusedText("no such halt", none, "+a" + bad, CoachesVote::coaches, -3);
            Looks.refusedText("no such halt", none, "+++++" + bad, CoachesVote::coaches, -6);
            Looks.refusedText("no room", none, "++++++" + bad, CoachesVote::coaches, -7);
        }
        Check.same("a letter of a net of one", Check.say(new CoachesVote(), "b").coaches(), -1);
        for (int there = 0; there <= 6; there++) {
            int n = there;
            Looks.State some = () -> Check.told(FORK, "+".repeat(n), "");
            Check.same("room", Check.say(some.make(), "a".repeat(6 - n)).coaches(), 6 - n);
            Looks.refusedText("no room behind " + n, some, "a".repeat(7 - n), CoachesVote::coaches, -1 - (6 - n));
        }
    }

    private static void nothingComes() {
        Looks.refusedText("the last one can't", Looks::busy, "az", CoachesVote::coaches, -2);
        Looks.refusedText("no room for the last one", Looks::busy, "a+", CoachesVote::coaches, -2);
        CoachesVote x = Looks.busy();
        Check.same("the last one can", Check.say(x, "+").coaches(), 1);
        Check.same("six", x.count(1), 6);
    }

    // ---- promise 6

    private static void passengers(Edges edges) {
        edges.test(6, "an empty one: nothing", NetEdgesTest::emptyLines)
            .test(6, "how many LINES; those whose COACH is at WANT are OUT at once", NetEdgesTest::outAtOnce)
            .test(6, "-1 - p: the sign at p can't stand there", NetEdgesTest::passengerFaults)
            .test(6, "its end, if it ends too early", NetEdgesTest::passengerEnds)
            .test(6, "the first sign of a LINE for which there is no room", NetEdgesTest::noRoomForLines)
            .test(6, "47, if it has more and the first 47 could go on or end", NetEdgesTest::longLines)
            .test(6, "Nothing of it comes, if a LINE can't", NetEdgesTest::noLineComes);
    }

    private static void emptyLines() {
        Looks.refusedText("an empty one", Looks::busy, "", CoachesVote::passengers, 0);
        Looks.refusedText("an empty one, of none", CoachesVote::new, "", CoachesVote::passengers, 0);
        Looks.refusedText("an empty one, of twelve", () -> Check.told(FORK, "+", TWELVE), "", CoachesVote::passengers, 0);
    }

    private static void outAtOnce() {
        CoachesVote x = Check.told(FORK, "+bd", "");
        Check.same("six lines", Check.say(x, "0a1;0b2;1a3;1b4;2c5;2d6").passengers(), 6);
        Check.same("out", x.count(7), 0b101001);
        Check.same("none out", Check.say(x, "0b1").passengers(), 1);
        Check.same("out", x.count(7), 0b0101001);
        x.go(0, 1);
        Check.same("where the engine is now", Check.say(x, "0a1;0b1").passengers(), 2);
        Check.same("out", x.count(7), 0b101101011);
    }

    private static void passengerFaults() {
        eachSignWrong("passengers", "0d2;4c3;3a9", CoachesVote::passengers, -1);
        String[] texts = {"5b1", "/b1", "a", "0e1", "0`1", "0b0", "0b:", "0b1,", "0b1:"};
        int[] due = {-1, -1, -1, -2, -2, -3, -3, -4, -4};
        for (int i = 0; i < texts.length; i++) {
            Looks.refusedText("passengers", Looks::busy, texts[i], CoachesVote::passengers, due[i]);
            Looks.refusedText("passengers", Looks::busy, "0b1;" + texts[i], CoachesVote::passengers, due[i] - 4);
        }
        Looks.refusedText("without coaches", CoachesVote::new, "0a1", CoachesVote::passengers, -1);
    }

    private static void passengerEnds() {
        String text = "0d2;4c3;3a9";
        for (int n = 1; n < text.length(); n++) {
            boolean whole = n % 4 == 3;
            CoachesVote x = Check.say(Looks.busy(), text.substring(0, n));
            Check.same("the first " + n, x.passengers(), whole ? (n + 1) / 4 : -1 - n);
            Check.same("emptied", x.count(11), 0);
        }
        Looks.refusedText("; at the end", Looks::busy, "0d2;", CoachesVote::passengers, -5);
        Looks.refusedText("without RANK", Looks::busy, "0d", CoachesVote::passengers, -3);
        Looks.refusedText("without WANT", Looks::busy, "0", CoachesVote::passengers, -2);
    }

    private static void noRoomForLines() {
        // busy() has seven, so that five more have room.
        Check.same("five", Check.say(Looks.busy(), "0b1;".repeat(4) + "0b1").passengers(), 5);
        Looks.refusedText("six", Looks::busy, "0b1;".repeat(5) + "0b1", CoachesVote::passengers, -21);
        Looks.refusedText("six, the sixth wrong", Looks::busy, "0b1;".repeat(5) + "0e0", CoachesVote::passengers, -21);
        Looks.refusedText("six, the fifth wrong", Looks::busy, "0b1;".repeat(4) + "0e0;0b1", CoachesVote::passengers, -18);
        Looks.refusedText("; behind five", Looks::busy, "0b1;".repeat(5), CoachesVote::passengers, -21);
        Looks.State full = () -> Check.told(FORK, "+", TWELVE);
        Looks.refusedText("one", full, "0b1", CoachesVote::passengers, -1);
        Looks.refusedText("a wrong one", full, "z", CoachesVote::passengers, -1);
        Looks.State eleven = () -> Check.told(FORK, "+", TWELVE.substring(4));
        Check.same("the twelfth", Check.say(eleven.make(), "0b1").passengers(), 1);
        Looks.refusedText("two", eleven, "0b1;0b1", CoachesVote::passengers, -5);
    }

    private static void longLines() {
        Looks.State none = () -> Check.told(FORK, "+", "");
        Check.same("47", Check.say(none.make(), TWELVE).passengers(), 12);
        for (int more = 1; more <= 33; more++) {
            for (String sign : new String[] {";", "z", "0"}) {
                Check.same(more + " more", Check.say(none.make(), TWELVE + sign.repeat(more)).passengers(), -48);
            }
        }
        Looks.refusedText("48", none, TWELVE + ";", CoachesVote::passengers, -48);
        Looks.refusedText("80", none, "0b1;".repeat(20), CoachesVote::passengers, -48);
        Looks.refusedText("a fault ahead", none, TWELVE.substring(0, 46) + "0;", CoachesVote::passengers, -47);
        Looks.refusedText("no room ahead", () -> Check.told(FORK, "+", "0b1"), "0b1;".repeat(20), CoachesVote::passengers, -45);
    }

    private static void noLineComes() {
        Looks.refusedText("the last LINE can't", Looks::busy, "0b1;0a2;5b1", CoachesVote::passengers, -9);
        Looks.refusedText("the last sign can't", Looks::busy, "0b1;0a2;", CoachesVote::passengers, -9);
        Looks.refusedText("the first LINE can't", Looks::busy, "5b1;0a2", CoachesVote::passengers, -1);
    }

    // ---- promise 7

    private static void rule(Edges edges) {
        edges.test(7, "THE TEXT is THE RULE (an empty one: none): 0", NetEdgesTest::rules)
            .test(7, "-1 - p: the sign at p can't stand there", NetEdgesTest::ruleFaults)
            .test(7, "its end, if it ends too early", NetEdgesTest::ruleEnds)
            .test(7, "40, if it has more and the first 40 could go on or end", NetEdgesTest::longRules);
    }

    private static void rules() {
        CoachesVote x = Check.told(FORK, "+", "0b5");
        Check.same("a rule", Check.say(x, "r+1").rule(), 0);
        Check.same("by it", x.passenger(0, 3), 6);
        Check.same("emptied", x.count(11), 0);
        Check.same("another one", Check.say(x, "r*2").rule(), 0);
        Check.same("by the other one", x.passenger(0, 3), 10);
        Check.same("none", Check.say(x, "").rule(), 0);
        Check.same("r", x.passenger(0, 3), 5);
        Check.same("nothing is forgotten", Check.say(Looks.busy(), "1").rule(), 0);
        CoachesVote y = Looks.busy();
        Check.say(y, "1").rule();
        Check.same("acts can still be undone", y.count(9), 3);
        Check.yes("what is kept is kept", y.again(2));
    }

    private static void ruleFaults() {
        eachSignWrong("rule", "(r+12)*-k<d/(p-n)", CoachesVote::rule, -1);
        String[] texts = {"r+*", "rr", "1r", "r<1<2", "(r", ")", "1234", "(((((r", "r+()", "R", "r=", "r--", "*"};
        int[] due = {-3, -2, -2, -4, -3, -1, -4, -5, -4, -1, -3, -4, -1};
        for (int i = 0; i < texts.length; i++) {
            Looks.refusedText("rule", Looks::busy, texts[i], CoachesVote::rule, due[i]);
        }
    }

    private static void ruleEnds() {
        for (String text : new String[] {"r+", "r-", "r*", "r/", "r<", "r>", "r=", "-", "--", "(", "(r", "(r+1", "((r)", "1+(2"}) {
            Looks.refusedText("rule", Looks::busy, text, CoachesVote::rule, -1 - text.length());
        }
        Looks.refusedText("39 signs", Looks::busy, "r+".repeat(19) + "-", CoachesVote::rule, -40);
        Looks.refusedText("40 signs", Looks::busy, "r+".repeat(20), CoachesVote::rule, -41);
    }

    private static void longRules() {
        String forty = "(r" + "+1".repeat(18) + ")" + "+";
        Check.same("40", forty.length(), 40);
        Check.same("39 that end", Check.say(Looks.busy(), forty.substring(0, 39)).rule(), 0);
        Check.same("40 that end", Check.say(Looks.busy(), "-" + forty.substring(0, 39)).rule(), 0);
        String[] heads = {forty, "-" + forty.substring(0, 39), "-".repeat(40), "((((" + "r+".repeat(18), "r+".repeat(18) + "1+12",
            "r+".repeat(18) + "1234".substring(0, 3) + "+"};
        for (String head : heads) {
            for (String more : new String[] {"r", "1", "z", "+1", ")".repeat(40)}) {
                Check.same("first 40 " + head, Check.say(Looks.busy(), head + more).rule(), -41);
            }
            Looks.refusedText("first 40", Looks::busy, head + "r", CoachesVote::rule, -41);
        }
        Looks.refusedText("a fault ahead", Looks::busy, "r+".repeat(19) + "*1r", CoachesVote::rule, -39);
        Looks.refusedText("a fault in the last one of 40", Looks::busy, "r+".repeat(19) + "r)+1", CoachesVote::rule, -40);
        Looks.refusedText("a fault in the first", Looks::busy, "z" + "r".repeat(79), CoachesVote::rule, -1);
    }
}
