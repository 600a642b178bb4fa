/** Promises 33 to 37: seen, forget, rows, been, ask. */
public final class SeenTest {
    /** From a: left, left comes to c; left, right and right, left come to a; c has no right exit. */
    private static final String NET = "3:b1c1;c1a1;a1-";

    public static void main(String[] args) {
        refused();
        rows();
        lastIsTheGreatest();
        contradictions();
        fromWhereTheEngineIs();
        manyRows();
        Check.finish("SeenTest");
    }

    private static void refused() {
        CoachesVote x = Check.told(NET, "", "");
        x.way(0, 1);
        Check.same("nothing told", x.rows(), -1);
        Check.same("nothing told", x.been(0), -1);
        Check.same("nothing told", x.ask(), -2);
        Check.same("k 13", x.seen(13, 0, 1), -1);
        Check.same("k -1", x.seen(-1, 0, 1), -1);
        Check.same("halt 3", x.seen(0, 3, 1), -1);
        Check.same("halt -1", x.seen(0, -1, 1), -1);
        Check.same("is 2", x.seen(0, 0, 2), -1);
        Check.same("is -1", x.seen(0, 0, -1), -1);
        Check.same("none told", x.count(8), 0);
        Check.row("as it was", x, 0, 1);
        for (int i = 1; i <= 12; i++) {
            Check.same("seen", x.seen(12, 0, i % 2), i);
        }
        Check.same("12 there are", x.seen(0, 0, 1), -1);
        Check.same("12", x.count(8), 12);
        Check.same("forgotten", x.forget(), 12);
        Check.same("none", x.count(8), 0);
        Check.same("none to forget", x.forget(), 0);
        Check.same("nothing told", x.rows(), -1);
    }

    private static void rows() {
        CoachesVote x = Check.told(NET, "", "");
        Check.same("at a behind 2", x.seen(2, 0, 1), 1);
        Check.same("two rows", x.rows(), 2);
        Check.row("the least", x, 0, 1);
        Check.same("behind 0", x.been(0), 0b001);
        Check.row("one", x, 1);
        Check.same("behind 1", x.been(1), 0b110);
        Check.row("two", x, 2);
        Check.same("behind 2", x.been(2), 0b001);
        Check.same("behind 3", x.been(3), -1);
        Check.same("behind -1", x.been(-1), -1);
        Check.same("ask for 1", x.ask(), 1);
        Check.row("two", x, 2);
        Check.same("not at b behind 1", x.seen(1, 1, 0), 2);
        Check.same("one row", x.rows(), 1);
        Check.row("right, left", x, 1, 0);
        Check.same("behind 1", x.been(1), 0b100);
        Check.same("of equal ones the first", x.ask(), 0);
        Check.row("one", x, 1);
    }

    private static void lastIsTheGreatest() {
        CoachesVote x = Check.told(NET, "", "");
        x.seen(3, 0, 0);
        x.seen(1, 1, 1);
        // b, then c a, a b or a c: not at a behind 3.
        Check.same("three steps", x.rows(), 2);
        Check.row("three steps", x, 0, 1, 0);
        Check.same("behind 2", x.been(2), 0b001);
        Check.same("behind 3", x.been(3), 0b110);
        Check.same("ask for 3", x.ask(), 3);
        CoachesVote y = Check.told(NET, "", "");
        y.seen(0, 0, 1);
        Check.same("a row of no steps", y.rows(), 1);
        Check.row("a row of no steps", y);
        Check.same("ask for 0", y.ask(), 0);
        Check.row("one", y, 1);
    }

    private static void contradictions() {
        CoachesVote x = Check.told(NET, "", "");
        x.seen(1, 1, 1);
        x.way(0, 1);
        x.seen(1, 2, 1);
        Check.same("no rows", x.rows(), 0);
        Check.row("nothing without", x);
        x.way(0, 1);
        Check.same("nothing to ask", x.ask(), -2);
        Check.row("as it was", x, 0, 1);
        Check.same("nowhere", x.been(0), 0);
        Check.row("nowhere", x, 0);
        x.forget();
        x.seen(0, 1, 1);
        Check.same("it went on from a", x.rows(), 0);
        x.forget();
        x.seen(2, 1, 1);
        Check.same("nobody can be at b behind 2", x.rows(), 0);
        CoachesVote y = new CoachesVote();
        y.seen(0, 0, 1);
        Check.same("a new object's only halt", y.rows(), 1);
        y.seen(1, 0, 0);
        Check.same("without exits no step", y.rows(), 0);
    }

    private static void fromWhereTheEngineIs() {
        CoachesVote x = Check.told(NET, "", "");
        x.seen(1, 0, 1);
        Check.same("from a", x.rows(), 0);
        x.go(0, 0);
        Check.same("from b", x.rows(), 1);
        Check.row("right", x, 1);
        x.go(0, 0);
        Check.same("from c", x.rows(), 1);
        Check.row("left", x, 0);
        Check.same("still told", x.count(8), 1);
    }

    private static void manyRows() {
        CoachesVote x = Check.told("2:a1b1;b1a1", "", "");
        x.seen(12, 0, 1);
        Check.same("half of all", x.rows(), 2048);
        Check.row("the least", x, 0, 0, 0, 0, 0, 0, 0, 0, 0, 0, 0, 0);
        x.seen(12, 0, 1);
        x.seen(0, 1, 0);
        Check.same("told twice", x.rows(), 2048);
        x.seen(5, 0, 0);
        Check.same("a quarter", x.rows(), 1024);
        Check.row("the least", x, 0, 0, 0, 0, 1, 0, 0, 0, 0, 0, 0, 1);
        Check.same("behind 5", x.been(5), 0b10);
        Check.same("behind 4", x.been(4), 0b11);
        Check.same("the first of the great ones", x.ask(), 1);
        Check.row("two", x, 2);
        // Two exits to the same halt are two rows.
        CoachesVote y = Check.told("2:b1b2;--", "", "");
        y.seen(1, 1, 1);
        Check.same("both", y.rows(), 2);
        Check.row("left", y, 0);
    }
}
