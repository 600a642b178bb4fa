/** Promises 41 to 44: keep, again, count, row. */
public final class KeptTest {
    private static final String RING = "3:b2-;c3-;a4-";

    public static void main(String[] args) {
        keeps();
        counts();
        rowNumbers();
        questionsChangeNothing();
        Check.finish("KeptTest");
    }

    private static void keeps() {
        CoachesVote x = Check.told(RING, "++a", "0c5;1b1;2b1");
        Check.no("nothing kept", x.again(0));
        Check.no("3", x.keep(3));
        Check.no("-1", x.keep(-1));
        Check.no("3", x.again(3));
        Check.no("-1", x.again(-1));
        Check.yes("0", x.keep(0));
        Check.no("nothing under 1", x.again(1));
        x.couple();
        x.cut(3);
        x.couple();
        x.walk(0, 1);
        Check.yes("1", x.keep(1));
        x.run();
        Check.yes("2", x.keep(2));
        x.sheet(2, 1, 8, 0);
        Check.yes("0 again", x.again(0));
        Check.same("engine", x.count(4), 0);
        Check.same("now", x.count(3), 0);
        Check.same("train", x.count(5), 0b011);
        Check.same("passenger", x.passenger(0, 0), 0);
        Check.same("ranks are not kept", x.passenger(0, 2), 8);
        Check.same("out", x.count(7), 0);
        Check.same("nothing to undo", x.count(9), 0);
        Check.yes("1 again", x.again(1));
        Check.same("now", x.count(3), 1);
        Check.same("train", x.count(5), 0b111);
        Check.same("passenger", x.passenger(0, 0), 1);
        Check.yes("2 again", x.again(2));
        Check.same("engine", x.count(4), 1);
        Check.same("left", x.count(6), 0b111);
        Check.same("out", x.count(7), 0);
        Check.yes("more than once", x.again(2));
        x.stand(7);
        x.keep(2);
        x.stand(7);
        x.again(2);
        Check.same("the later one", x.count(3), 10);
        x.undo();
        Check.same("nothing to undo", x.count(3), 10);
        Check.yes("a kept one is not changed by acts", x.again(0));
        Check.same("now", x.count(3), 0);
        Check.say(x, "+").coaches();
        for (int i = 0; i < 3; i++) {
            Check.no("a coach came since", x.again(i));
        }
        Check.yes("kept anew", x.keep(1));
        Check.yes("kept anew", x.again(1));
        Check.no("the others not", x.again(0));
    }

    private static void counts() {
        CoachesVote x = Check.told(RING, "+ab+", "0c5;3b1;2b1");
        x.stand(9);
        x.seen(2, 1, 0);
        x.seen(1, 1, 1);
        x.way(0, 2);
        x.sign(0);
        x.sign(0);
        x.end(5);
        int[] due = {3, 4, 3, 9, 0, 0b1001, 0b0110, 0b100, 2, 1, 3, 5};
        for (int what = 0; what < 12; what++) {
            Check.same("count " + what, x.count(what), due[what]);
        }
        x.end(0);
        x.run();
        Check.same("engine", x.count(4), 1);
        Check.same("out", x.count(7), 0b110);
        Check.same("12", x.count(12), -100);
        Check.same("-1", x.count(-1), -100);
        Check.same("least int", x.count(Integer.MIN_VALUE), -100);
        Check.same("greatest int", x.count(Integer.MAX_VALUE), -100);
    }

    private static void rowNumbers() {
        CoachesVote x = Check.told(RING, "+", "0c5");
        Check.none("no row yet", () -> x.row(0));
        x.run();
        Check.same("0", x.row(0), 0);
        Check.same("2", x.row(2), 2);
        Check.none("3", () -> x.row(3));
        Check.none("-1", () -> x.row(-1));
        Check.none("greatest", () -> x.row(Integer.MAX_VALUE));
        // Calls that tell no row leave it.
        x.couple();
        x.stand(1);
        x.cut(1);
        x.couple();
        x.undo();
        x.keep(0);
        x.again(0);
        x.seen(0, 0, 1);
        x.forget();
        x.sheet(2, 1, 1, 1);
        Check.say(x, "r+1").rule();
        Check.say(x, "a").coaches();
        Check.say(x, "1b1").passengers();
        Check.say(x, RING).net();
        Check.row("as run told it", x, 0, 0, 2);
        x.fetch(0);
        Check.row("a row of none", x);
    }

    private static void questionsChangeNothing() {
        CoachesVote x = Check.told(RING, "+++a", "0c5;1b1;2c4;0c3;3b2");
        x.stand(3);
        x.seen(3, 1, 0);
        x.course();
        x.ahead(30);
        x.arrives(0);
        x.tips(0);
        x.power(0);
        x.lobby(0, 1);
        x.seat(0);
        x.reseat(12);
        x.close(12);
        x.fetch(1);
        Check.say(x, "9-r").law();
        x.heads(30);
        x.rows();
        x.been(1);
        x.ask();
        x.odds(0, 0, 3);
        x.bargain(9);
        x.nights(8, 60);
        x.way(0, 1);
        int[] due = {3, 4, 5, 3, 0, 0b0111, 0b1000, 0, 1, 1};
        for (int what = 0; what < due.length; what++) {
            Check.same("count " + what, x.count(what), due[what]);
        }
        int[] seats = {0, 1, 2, 0, 3};
        for (int i = 0; i < 5; i++) {
            Check.same("seat " + i, x.passenger(i, 0), seats[i]);
        }
        Check.same("votes by the rule", x.passenger(0, 3), 5);
        Check.same("exits", x.halt(0, 0), 1);
        Check.same("ways", x.way(0, 2), 5);
        Check.same("undo", x.undo(), 0);
        Check.same("now", x.count(3), 0);
    }
}
