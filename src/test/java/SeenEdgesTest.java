import java.io.IOException;

/** The edges that promises 33 to 37 name: seen, forget, rows, been, ask. */
public final class SeenEdgesTest {
    /** From a: left, left comes to c; left, right and right, left come to a; c has no right exit. */
    private static final String NET = "3:b1c1;c1a1;a1-";
    /** By each exit it stays where it is, or goes over to the other halt. */
    private static final String PAIR = "2:a1b1;b1a1";
    private static final int[] WILD = {Integer.MIN_VALUE, -2, -1, Integer.MAX_VALUE};

    public static void main(String[] args) throws IOException {
        Edges edges = new Edges("SeenEdgesTest");
        seen(edges);
        rows(edges);
        been(edges);
        asks(edges);
        edges.finish(33, 37);
    }

    // ---- promises 33 and 34

    private static void seen(Edges edges) {
        edges.test(33, "A COACH that went on from THE ENGINE's HALT as it is now, by one EXIT in each step", SeenEdgesTest::fromTheEngine)
            .test(33, "was seen (is 1), or was not (0), at a HALT behind k steps (0 .. 12): how many such", SeenEdgesTest::steps)
            .test(33, "Refused: others, 12", SeenEdgesTest::seenRefused)
            .test(34, "They are forgotten: how many there were", SeenEdgesTest::forgotten);
    }

    private static void fromTheEngine() {
        CoachesVote x = Check.told(NET, "", "");
        x.seen(1, 0, 1);
        Check.same("from a not to a", x.rows(), 0);
        x.go(0, 0);
        Check.same("from b by right", x.rows(), 1);
        Check.row("from b by right", x, 1);
        x.undo();
        Check.same("from a again", x.rows(), 0);
        Check.same("still told", x.count(8), 1);
        // Behind no steps it is where the engine is.
        CoachesVote y = Check.told(NET, "", "");
        y.seen(0, 0, 1);
        Check.same("at a", y.rows(), 1);
        y.go(0, 0);
        Check.same("not at a", y.rows(), 0);
    }

    private static void steps() {
        for (int k = 0; k <= 12; k++) {
            for (int halt = 0; halt < 3; halt++) {
                for (int is = 0; is <= 1; is++) {
                    CoachesVote x = Check.told(NET, "", "");
                    Check.same("behind " + k, x.seen(k, halt, is), 1);
                    Check.same("one", x.count(8), 1);
                    Check.yes("so many steps", x.been(k) >= 0);
                    Check.same("no more", x.been(k + 1), -1);
                    Check.same("the same once more counts", x.seen(k, halt, is), 2);
                }
            }
        }
    }

    private static Looks.State told(int number) {
        return () -> {
            CoachesVote x = Check.told(NET, "+", "0b1");
            for (int i = 1; i <= number; i++) {
                Check.same("seen", x.seen(12, 0, 0), i);
            }
            x.way(0, 1);
            return Check.say(x, "r");
        };
    }

    private static void seenRefused() {
        for (int wild : WILD) {
            Looks.refused("k " + wild, Looks::busy, x -> x.seen(wild, 0, 1), -1);
            Looks.refused("halt " + wild, Looks::busy, x -> x.seen(0, wild, 1), -1);
            Looks.refused("is " + wild, Looks::busy, x -> x.seen(0, 0, wild), -1);
        }
        Looks.refused("k 13", Looks::busy, x -> x.seen(13, 0, 1), -1);
        Looks.refused("halt 4", Looks::busy, x -> x.seen(0, 4, 1), -1);
        Looks.refused("is 2", Looks::busy, x -> x.seen(0, 0, 2), -1);
        Check.same("k 12, the last halt", Looks.busy().seen(12, 3, 0), 4);
        Check.same("the twelfth", told(11).make().seen(0, 0, 1), 12);
        Looks.refused("the thirteenth", told(12), x -> x.seen(0, 0, 1), -1);
        Looks.refused("the thirteenth, told before", told(12), x -> x.seen(12, 0, 0), -1);
    }

    private static void forgotten() {
        for (int number = 0; number <= 12; number++) {
            CoachesVote x = told(number).make();
            Check.same("so many", x.forget(), number);
            Check.same("none", x.count(8), 0);
            Check.same("none", x.forget(), 0);
            Check.same("nothing was told", x.rows(), -1);
            Check.same("nothing was told", x.been(0), -1);
            Check.same("nothing was told", x.ask(), -2);
            Check.row("the row is as it was", x, 0, 1);
            // What comes now stands alone: one step, and b is not ruled out.
            Check.same("one", x.seen(1, 1, 1), 1);
            Check.same("one row", x.rows(), 1);
            Check.row("of one step", x, 0);
        }
        for (int k = 0; k <= 12; k++) {
            CoachesVote x = Check.told(PAIR, "", "");
            x.seen(k, 0, 0);
            x.seen(k, 1, 0);
            Check.same("nowhere behind " + k, x.rows(), 0);
            Check.same("two", x.forget(), 2);
            x.seen(k, 0, 1);
            Check.same("at a behind " + k, x.rows(), k == 0 ? 1 : 1 << k - 1);
            x.seen(k, 0, 0);
            Check.same("the same net", Check.say(x, PAIR).net(), 2);
            x.seen(k, 0, 1);
            Check.same("forgotten by net()", x.rows(), k == 0 ? 1 : 1 << k - 1);
        }
    }

    // ---- promise 35

    private static void rows(Edges edges) {
        edges.test(35, "Rows of EXITS (0, 1) of as many steps as the last that was told", SeenEdgesTest::asManySteps)
            .test(35, "by which it was where it was seen, and nowhere where it was not: how many", SeenEdgesTest::howMany)
            .test(35, "the ROW: the least (nothing without)", SeenEdgesTest::leastRow)
            .test(35, "NONE: nothing was told", SeenEdgesTest::nothingTold);
    }

    private static void asManySteps() {
        for (int k = 0; k <= 12; k++) {
            CoachesVote x = Check.told("1:a1a2", "", "");
            x.seen(k, 0, 1);
            Check.same("all rows of " + k, x.rows(), 1 << k);
            Check.same("steps", x.count(10), k);
        }
        // The last step is the greatest, whenever it was told.
        CoachesVote y = Check.told("1:a1a2", "", "");
        y.seen(7, 0, 1);
        y.seen(2, 0, 1);
        Check.same("seven steps", y.rows(), 128);
        y.seen(8, 0, 1);
        Check.same("eight steps", y.rows(), 256);
    }

    private static void howMany() {
        CoachesVote x = Check.told(PAIR, "", "");
        x.seen(12, 0, 1);
        Check.same("half of all", x.rows(), 2048);
        x.seen(12, 0, 1);
        Check.same("told twice", x.rows(), 2048);
        x.seen(12, 1, 0);
        Check.same("and not at b", x.rows(), 2048);
        x.seen(5, 0, 0);
        Check.same("a quarter", x.rows(), 1024);
        x.seen(0, 1, 0);
        Check.same("it was not at b at first", x.rows(), 1024);
        x.seen(0, 0, 0);
        Check.same("nor at a", x.rows(), 0);
        CoachesVote same = Check.told("2:b1b2;--", "", "");
        same.seen(1, 1, 1);
        Check.same("two exits to one halt are two rows", same.rows(), 2);
        same.seen(2, 0, 0);
        Check.same("from b there is no step on", same.rows(), 0);
        CoachesVote bare = new CoachesVote();
        bare.seen(0, 0, 1);
        Check.same("the row of no steps", bare.rows(), 1);
        bare.seen(1, 0, 0);
        Check.same("no step without exits", bare.rows(), 0);
    }

    private static void leastRow() {
        CoachesVote x = Check.told(NET, "", "");
        x.seen(2, 0, 1);
        Check.same("left, right and right, left", x.rows(), 2);
        Check.row("the least", x, 0, 1);
        x.seen(1, 1, 0);
        Check.same("right, left alone", x.rows(), 1);
        Check.row("right, left alone", x, 1, 0);
        x.seen(1, 2, 0);
        Check.same("none", x.rows(), 0);
        Check.row("nothing without", x);
        CoachesVote y = Check.told(PAIR, "", "");
        y.seen(12, 1, 1);
        Check.same("half of all", y.rows(), 2048);
        Check.row("over in the last step", y, 0, 0, 0, 0, 0, 0, 0, 0, 0, 0, 0, 1);
        y.forget();
        y.seen(0, 0, 1);
        y.rows();
        Check.row("no steps", y);
        CoachesVote right = Check.told("1:-a1", "", "");
        right.seen(12, 0, 1);
        Check.same("one row", right.rows(), 1);
        Check.row("right alone", right, 1, 1, 1, 1, 1, 1, 1, 1, 1, 1, 1, 1);
        allRows();
    }

    /** Nine halts with exits of all kinds: all rows, gone through one by one. */
    private static void allRows() {
        int[][] to = {{1, 4}, {2, 5}, {-1, 3}, {7, 0}, {8, -1}, {4, 6}, {3, 3}, {-1, -1}, {1, 2}};
        CoachesVote x = Check.told("9:b1e1;c1f1;-d1;h1a1;i1-;e1g1;d1d2;--;b1c1", "", "");
        for (int k = 0; k <= 12; k++) {
            for (int halt = 0; halt < 9; halt++) {
                int number = 0;
                int least = -1;
                int middle = 0;
                for (int row = 0; row < 1 << k; row++) {
                    int at = 0;
                    int halfway = 0;
                    for (int step = k - 1; step >= 0 && at >= 0; step--) {
                        at = to[at][row >> step & 1];
                        halfway = step == k / 2 ? at : halfway;
                    }
                    if (at == halt) {
                        least = number == 0 ? row : least;
                        number++;
                        middle |= 1 << halfway;
                    }
                }
                x.forget();
                x.seen(k, halt, 1);
                Check.same("rows to " + halt + " in " + k, x.rows(), number);
                Check.same("steps", x.count(10), number > 0 ? k : 0);
                for (int step = 0; step < k && number > 0; step++) {
                    Check.same("step " + step + " to " + halt + " in " + k, x.row(step), least >> k - 1 - step & 1);
                }
                Check.same("halfway to " + halt + " in " + k, x.been(k - k / 2), middle);
            }
        }
    }

    private static void nothingTold() {
        Looks.refused("nothing told", told(0), CoachesVote::rows, -1);
        Looks.refused("nothing told", CoachesVote::new, CoachesVote::rows, -1);
        Looks.asked("one told", told(1), CoachesVote::rows, rowsNotAtA());
    }

    /** Rows of twelve steps in NET from a that do not end at a, counted by going them all. */
    private static int rowsNotAtA() {
        int[][] to = {{1, 2}, {2, 0}, {0, -1}};
        int number = 0;
        for (int row = 0; row < 1 << 12; row++) {
            int at = 0;
            for (int step = 0; step < 12 && at >= 0; step++) {
                at = to[at][row >> step & 1];
            }
            number += at > 0 ? 1 : 0;
        }
        return number;
    }

    // ---- promise 36

    private static void been(Edges edges) {
        edges.test(36, "HALTS (bits) where it can have been behind k steps (0 .. the last that was told), by such rows",
                SeenEdgesTest::canHaveBeen)
            .test(36, "the ROW: how many", SeenEdgesTest::beenRows)
            .test(36, "NONE: others, nothing was told", SeenEdgesTest::beenRefused);
    }

    private static void been(CoachesVote x, int k, int due) {
        Check.same("behind " + k, x.been(k), due);
        Check.row("behind " + k, x, Integer.bitCount(due));
    }

    private static void canHaveBeen() {
        CoachesVote x = Check.told(NET, "", "");
        x.seen(3, 1, 0);
        been(x, 0, 0b001);
        been(x, 1, 0b110);
        been(x, 2, 0b101);
        been(x, 3, 0b101);
        x.seen(3, 2, 0);
        // At a behind three steps: by b and c alone.
        been(x, 1, 0b010);
        been(x, 2, 0b100);
        been(x, 3, 0b001);
        CoachesVote ring = Check.told("9:b1-;c1-;d1-;e1-;f1-;g1-;h1-;i1-;a1-", "", "");
        ring.seen(12, 3, 1);
        for (int k = 0; k <= 12; k++) {
            been(ring, k, 1 << k % 9);
        }
    }

    private static void beenRows() {
        CoachesVote x = Check.told("9:b1c1;d1e1;f1g1;h1i1;h1i1;h1i1;h1i1;--;--", "", "");
        x.seen(2, 0, 0);
        been(x, 2, 0b001111000);
        x.seen(3, 0, 0);
        been(x, 3, 0b110000000);
        // There are no such rows: nowhere, not even where it went on from.
        x.seen(3, 0, 1);
        for (int k = 0; k <= 3; k++) {
            been(x, k, 0);
        }
    }

    private static void beenRefused() {
        Looks.State state = () -> {
            CoachesVote x = Check.told(NET, "", "");
            x.seen(2, 0, 1);
            x.seen(1, 0, 0);
            x.way(0, 1);
            return x;
        };
        for (int wild : WILD) {
            Looks.refused("k " + wild, state, x -> x.been(wild), -1);
        }
        Looks.refused("behind the last", state, x -> x.been(3), -1);
        Looks.asked("the last", state, x -> x.been(2), 0b001);
        Looks.asked("the first", state, x -> x.been(0), 0b001);
        Looks.refused("nothing told", told(0), x -> x.been(0), -1);
        Looks.refused("12 of nothing", told(0), x -> x.been(12), -1);
        Looks.refused("13 of 12", told(1), x -> x.been(13), -1);
        Check.yes("12 of 12", told(1).make().been(12) > 0);
    }

    // ---- promise 37

    private static void asks(Edges edges) {
        edges.test(37, "The step behind which it can have been at the most HALTS; of equal ones the first: it; the ROW: how many",
                SeenEdgesTest::whichStep)
            .test(37, "-2: there are no such rows, nothing was told", SeenEdgesTest::nothingToAsk);
    }

    private static void ask(CoachesVote x, int due, int halts) {
        Check.same("ask", x.ask(), due);
        Check.row("ask", x, halts);
    }

    private static void whichStep() {
        CoachesVote x = Check.told(NET, "", "");
        x.seen(0, 0, 1);
        ask(x, 0, 1);
        x.seen(1, 0, 0);
        ask(x, 1, 2);
        x.seen(2, 0, 1);
        ask(x, 1, 2);
        x.seen(1, 1, 0);
        // Everywhere one halt alone: the first step.
        ask(x, 0, 1);
        CoachesVote wide = Check.told("9:b1c1;d1e1;f1g1;h1i1;h1i1;h1i1;h1i1;--;--", "", "");
        wide.seen(3, 0, 0);
        ask(wide, 2, 4);
        wide.seen(2, 3, 0);
        ask(wide, 2, 3);
        wide.seen(2, 4, 0);
        // By c alone: f and g, or h and i: the first of equal ones.
        ask(wide, 2, 2);
        wide.seen(2, 5, 0);
        // By c and g: h and i, in the last step.
        ask(wide, 3, 2);
        CoachesVote last = Check.told("3:b1-;-c1;--", "", "");
        last.seen(2, 2, 1);
        ask(last, 0, 1);
    }

    private static void nothingToAsk() {
        Looks.refused("nothing told", told(0), CoachesVote::ask, -2);
        Looks.refused("nothing told", CoachesVote::new, CoachesVote::ask, -2);
        Looks.State none = () -> {
            CoachesVote x = told(1).make();
            x.seen(12, 0, 1);
            return x;
        };
        Check.same("no such rows", none.make().rows(), 0);
        Looks.refused("no such rows", none, CoachesVote::ask, -2);
    }
}
