import java.io.IOException;

/** The edges that promises 41 to 44 name: keep, again, count, row. */
public final class KeptEdgesTest {
    private static final String FORK = "4:b1c1;--;--;--";
    private static final int[] WILD = {Integer.MIN_VALUE, -2, -1, Integer.MAX_VALUE};

    public static void main(String[] args) throws IOException {
        Edges edges = new Edges("KeptEdgesTest");
        keeps(edges);
        agains(edges);
        counts(edges);
        rows(edges);
        edges.finish(41, 44);
    }

    private static int is(boolean answer) {
        return answer ? 1 : 0;
    }

    // ---- promise 41

    private static void keeps(Edges edges) {
        edges.test(41, "Where THE ENGINE and COACHES are, THE TRAIN's order, where PASSENGERS are, NOW are kept under a number 0 .. 2: true",
                KeptEdgesTest::keptUnder)
            .test(41, "Refused: others", KeptEdgesTest::keepRefused);
    }

    private static void keptUnder() {
        CoachesVote x = Check.told(FORK, "a++", "1b1;2b1;0c1");
        Check.yes("under 0", x.keep(0));
        x.couple();
        x.walk(1, 1);
        Check.yes("under 1", x.keep(1));
        Check.same("left", x.go(0, 1), 1);
        Check.yes("under 2", x.keep(2));
        int[][] engines = {{0, 0, 0b110, 0}, {0, 1, 0b111, 0}, {1, 2, 0b010, 0b011}};
        int[][] places = {{-1, 0, 1}, {2, 0, 1}, {-1, 0, -1}};
        int[][] seats = {{1, 2, 0}, {1, 1, 0}, {-1, -1, 0}};
        for (int turn = 0; turn < 6; turn++) {
            int i = turn * 2 % 3;
            Check.yes("again " + i, x.again(i));
            Check.same("engine", x.count(4), engines[i][0]);
            Check.same("now", x.count(3), engines[i][1]);
            Check.same("train", x.count(5), engines[i][2]);
            Check.same("out", x.count(7), engines[i][3]);
            for (int j = 0; j < 3; j++) {
                Check.same("place", x.coach(j, 1), places[i][j]);
                Check.same("seat", x.passenger(j, 0), seats[i][j]);
            }
            x.stand(9);
            x.cut(1);
        }
        // Kept once more under the same number: the later one.
        CoachesVote y = new CoachesVote();
        y.keep(2);
        y.stand(5);
        y.keep(2);
        y.stand(5);
        Check.yes("again", y.again(2));
        Check.same("the later one", y.count(3), 5);
    }

    private static void keepRefused() {
        for (int wild : WILD) {
            Looks.refused("keep " + wild, Looks::busy, x -> is(x.keep(wild)), 0);
        }
        Looks.refused("keep 3", Looks::busy, x -> is(x.keep(3)), 0);
        Check.yes("keep 2", Looks.busy().keep(2));
        Check.yes("keep 0", Looks.busy().keep(0));
    }

    // ---- promise 42

    private static void agains(Edges edges) {
        edges.test(42, "They are as they were kept under a number", KeptEdgesTest::asTheyWere)
            .test(42, "Refused: nothing kept, COACHES or PASSENGERS came since", KeptEdgesTest::againRefused);
    }

    private static void asTheyWere() {
        Looks.same("kept and acted, and again", () -> {
            CoachesVote x = Check.told(FORK, "a++", "1b1;2b1;0c1");
            x.keep(1);
            x.couple();
            x.run();
            x.stand(5);
            Check.yes("again", x.again(1));
            return x;
        }, () -> {
            CoachesVote x = Check.told(FORK, "a++", "1b1;2b1;0c1");
            x.keep(1);
            return x;
        }, false);
        // RANKS, THE RULE, what was seen, the ROW and THE TEXT are not kept.
        CoachesVote y = Looks.busy();
        y.keep(1);
        y.sheet(2, 1, 9, 0);
        Check.say(y, "r+3").rule();
        y.seen(0, 0, 1);
        y.way(0, 0);
        Check.say(y, "abcd");
        Check.yes("again", y.again(1));
        Check.same("rank", y.passenger(0, 2), 9);
        Check.same("rule", y.passenger(0, 3), 12);
        Check.same("seen", y.count(8), 4);
        Check.row("row", y, 0);
        Check.same("text", y.count(11), 4);
        Check.same("nothing to undo", y.count(9), 0);
        Check.yes("once more", y.again(1));
    }

    private static void againRefused() {
        for (int wild : WILD) {
            Looks.refused("again " + wild, Looks::busy, x -> is(x.again(wild)), 0);
        }
        Looks.refused("again 3", Looks::busy, x -> is(x.again(3)), 0);
        Looks.refused("nothing kept under 1", Looks::busy, x -> is(x.again(1)), 0);
        Check.yes("kept under 0", Looks.busy().again(0));
        Check.yes("kept under 2", Looks.busy().again(2));
        Looks.State coachCame = () -> {
            CoachesVote x = Looks.busy();
            Check.same("a coach", Check.say(x, "d").coaches(), 1);
            x.keep(1);
            return x;
        };
        Looks.State passengerCame = () -> {
            CoachesVote x = Looks.busy();
            Check.same("a passenger", Check.say(x, "0b1").passengers(), 1);
            x.keep(1);
            return x;
        };
        for (Looks.State came : new Looks.State[] {coachCame, passengerCame}) {
            Looks.refused("one came since 0", came, x -> is(x.again(0)), 0);
            Looks.refused("one came since 2", came, x -> is(x.again(2)), 0);
            Check.yes("none came since 1", came.make().again(1));
        }
        // None came by empty texts, nor by refused ones.
        CoachesVote y = Looks.busy();
        Check.same("none", Check.say(y, "").coaches(), 0);
        Check.same("none", Check.say(y, "").passengers(), 0);
        Check.same("refused", Check.say(y, "++").coaches(), -2);
        Check.same("refused", Check.say(y, "0b1;").passengers(), -5);
        Check.yes("none came", y.again(0));
    }

    // ---- promise 43

    private static void counts(Edges edges) {
        edges.test(43, "What 0: HALTS, 1: COACHES, 2: PASSENGERS, 3: NOW, 4: where THE ENGINE is, 5: COACHES in THE TRAIN (bits), 6: those"
                + " that stand (bits), 7: PASSENGERS that are OUT (bits), 8: how often something was seen or not, 9: what can be undone,"
                + " 10: numbers of the ROW, 11: signs of THE TEXT", KeptEdgesTest::whatThereIs)
            .test(43, "-100 for another what", KeptEdgesTest::anotherWhat);
    }

    private static void count(CoachesVote x, int... due) {
        for (int what = 0; what < 12; what++) {
            Check.same("count " + what, x.count(what), due[what]);
        }
    }

    private static void whatThereIs() {
        count(new CoachesVote(), 1, 0, 0, 0, 0, 0, 0, 0, 0, 0, 0, 0);
        count(Looks.busy(), 4, 5, 7, 11, 1, 0b00011, 0b11100, 0b0100000, 3, 3, 3, 3);
        CoachesVote full = Check.told("9:b9-;a9-;--;--;--;--;--;--;--", "++++++", "0b1;".repeat(11) + "0b1");
        for (int i = 0; i < 16; i++) {
            full.stand(99);
        }
        for (int i = 0; i < 13; i++) {
            full.seen(12, 0, 0);
        }
        for (int i = 0; i < 21; i++) {
            full.sign(0);
        }
        count(full, 9, 6, 12, 16 * 99, 0, 0b111111, 0, 0, 12, 15, 0, 80);
        full.go(0, 1);
        count(full, 9, 6, 12, 16 * 99 + 9, 1, 0b000001, 0b111110, 0xfff, 12, 15, 1, 80);
        full.forget();
        full.seen(12, 1, 1);
        full.rows();
        count(full, 9, 6, 12, 16 * 99 + 9, 1, 0b000001, 0b111110, 0xfff, 1, 15, 12, 80);
    }

    private static void anotherWhat() {
        for (int wild : WILD) {
            Looks.refused("what " + wild, Looks::busy, x -> x.count(wild), -100);
        }
        Looks.refused("what 12", Looks::busy, x -> x.count(12), -100);
        Check.same("what 11", Looks.busy().count(11), 3);
    }

    // ---- promise 44

    private static void rows(Edges edges) {
        edges.test(44, "Number i of the ROW", KeptEdgesTest::numbersOfTheRow)
            .test(44, "NoSuchElementException: none such", KeptEdgesTest::noSuchNumber);
    }

    private static void numbersOfTheRow() {
        CoachesVote x = Check.told("9:b1-;c1-;d1-;e1-;f1-;g1-;h1-;i1-;--", "", "");
        for (int to = 0; to < 9; to++) {
            x.way(0, to);
            for (int i = 0; i <= to; i++) {
                Check.same("number " + i, x.row(i), i);
            }
            int behind = to + 1;
            Check.none("number " + behind, () -> x.row(behind));
            Check.none("number -1", () -> x.row(-1));
        }
    }

    private static void noSuchNumber() {
        Check.none("0 of none", () -> new CoachesVote().row(0));
        for (int wild : WILD) {
            Looks.none("number " + wild, Looks::busy, x -> x.row(wild));
        }
        Looks.none("number 3 of three", Looks::busy, x -> x.row(3));
        Check.same("number 2 of three", Looks.busy().row(2), 3);
        Looks.none("0 of none", () -> {
            CoachesVote x = new CoachesVote();
            x.course();
            x.fetch(0);
            return x;
        }, x -> x.row(0));
        // Twelve is the most that a row has.
        CoachesVote most = Check.told("1:a1-", "", "");
        most.seen(12, 0, 1);
        most.rows();
        Check.same("the twelfth", most.row(11), 0);
        Check.none("the thirteenth", () -> most.row(12));
    }
}
