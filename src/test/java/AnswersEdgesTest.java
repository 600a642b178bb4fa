import java.io.IOException;

/** The edges that promises 8 to 11 name: halt, coach, passenger, sheet. */
public final class AnswersEdgesTest {
    private static final String FORK = "4:b1c1;--;--;--";
    private static final int[] WILD = {Integer.MIN_VALUE, -2, -1, Integer.MAX_VALUE};

    public static void main(String[] args) throws IOException {
        Edges edges = new Edges("AnswersEdgesTest");
        halts(edges);
        coaches(edges);
        passengers(edges);
        sheets(edges);
        edges.finish(8, 11);
    }

    /** A call of two arguments that throws. */
    private interface Question {
        long of(CoachesVote x, int which, int what);
    }

    /** There are so many of them, of each of which so many things are told: no fewer and no more. */
    private static void asMany(String name, Question question, int many, int things) {
        for (int which = 0; which < many; which++) {
            for (int what = 0; what < things; what++) {
                question.of(Looks.busy(), which, what);
            }
        }
        for (int wild : WILD) {
            Looks.none(name + " " + wild, Looks::busy, x -> question.of(x, wild, 0));
            Looks.none(name + " 0, what " + wild, Looks::busy, x -> question.of(x, 0, wild));
        }
        Looks.none(name + " " + many, Looks::busy, x -> question.of(x, many, 0));
        Looks.none(name + ", what " + things, Looks::busy, x -> question.of(x, many - 1, things));
        Looks.none(name + ", neither", Looks::busy, x -> question.of(x, many, things));
    }

    // ---- promise 8

    private static void halts(Edges edges) {
        edges.test(8, "to which HALT the left, the right EXIT goes (NONE), 2, 3: their MINUTES (0)", AnswersEdgesTest::exits)
            .test(8, "4: COACHES that stand there (bits), 5: 1 if THE ENGINE is there", AnswersEdgesTest::whoIsThere)
            .test(8, "NoSuchElementException: none such, another what", AnswersEdgesTest::noSuchHalt);
    }

    private static void exits() {
        CoachesVote x = Check.told("9:a1i9;--;-b4;--;--;--;--;--;b8-", "", "");
        int[][] due = {{0, 8, 1, 9}, {-1, -1, 0, 0}, {-1, 1, 0, 4}};
        for (int halt = 0; halt < 3; halt++) {
            for (int what = 0; what < 4; what++) {
                Check.same("halt " + halt + ", " + what, x.halt(halt, what), due[halt][what]);
            }
        }
        Check.same("the last halt", x.halt(8, 0), 1);
        Check.same("the last halt", x.halt(8, 1), -1);
        Check.same("the last halt", x.halt(8, 2), 8);
        Check.same("the last halt", x.halt(8, 3), 0);
    }

    private static void whoIsThere() {
        CoachesVote x = Check.told(FORK, "+a++ad", "");
        Check.same("not those in the train", x.halt(0, 4), 0b010010);
        Check.same("none", x.halt(1, 4), 0);
        Check.same("at d", x.halt(3, 4), 0b100000);
        x.couple();
        Check.same("none stands", x.halt(0, 4), 0);
        x.cut(5);
        Check.same("all but the one at d", x.halt(0, 4), 0b011111);
        for (int halt = 0; halt < 4; halt++) {
            Check.same("engine", x.halt(halt, 5), halt == 0 ? 1 : 0);
        }
        x.go(1, 0);
        for (int halt = 0; halt < 4; halt++) {
            Check.same("engine", x.halt(halt, 5), halt == 2 ? 1 : 0);
        }
    }

    private static void noSuchHalt() {
        asMany("halt", CoachesVote::halt, 4, 6);
        CoachesVote x = new CoachesVote();
        Check.same("the only one", x.halt(0, 5), 1);
        Check.none("halt 1 of one", () -> x.halt(1, 5));
        CoachesVote y = Check.told("9:--;--;--;--;--;--;--;--;--", "", "");
        Check.same("the last of nine", y.halt(8, 5), 0);
        Check.none("halt 9", () -> y.halt(9, 0));
    }

    // ---- promise 9

    private static void coaches(Edges edges) {
        edges.test(9, "what 0: the HALT, 1: its place in THE TRAIN (NONE: it stands)", AnswersEdgesTest::placesOfCoaches)
            .test(9, "2: PASSENGERS in it (bits), 3: its VOTE, 4 .. 6: VOTES for left, right, stay", AnswersEdgesTest::votesOfCoaches)
            .test(9, "NoSuchElementException: likewise", AnswersEdgesTest::noSuchCoach);
    }

    private static void placesOfCoaches() {
        CoachesVote x = Check.told(FORK, "b+++++", "");
        Check.same("stands", x.coach(0, 1), -1);
        Check.same("at b", x.coach(0, 0), 1);
        Check.same("the first", x.coach(1, 1), 0);
        Check.same("the last", x.coach(5, 1), 4);
        x.go(0, 5);
        Check.same("where the engine is", x.coach(5, 0), 1);
        Check.same("still stands", x.coach(0, 1), -1);
        x.couple();
        Check.same("behind all", x.coach(0, 1), 5);
        x.cut(6);
        for (int coach = 0; coach < 6; coach++) {
            Check.same("stands", x.coach(coach, 1), -1);
            Check.same("at b", x.coach(coach, 0), 1);
        }
    }

    private static void votesOfCoaches() {
        CoachesVote x = Check.told(FORK, "++a", "0b1;0c2;0d3;2c4;0b2;0a9");
        int[][] due = {{0b010111, 0, 3, 2, 3}, {0, 2, 0, 0, 0}, {0b001000, 1, 0, 4, 0}};
        for (int coach = 0; coach < 3; coach++) {
            for (int what = 2; what < 7; what++) {
                Check.same("coach " + coach + ", " + what, x.coach(coach, what), due[coach][what - 2]);
            }
        }
        CoachesVote full = Check.told(FORK, "+", "0b9;".repeat(11) + "0b9");
        Check.say(full, "99").rule();
        Check.same("all twelve", full.coach(0, 2), 0xfff);
        Check.same("all twelve", full.coach(0, 4), 12 * 99);
    }

    private static void noSuchCoach() {
        asMany("coach", CoachesVote::coach, 5, 7);
        Check.none("coach 0 of none", () -> new CoachesVote().coach(0, 0));
        CoachesVote six = Check.told(FORK, "++++++", "");
        Check.same("the last of six", six.coach(5, 1), 5);
        Check.none("coach 6", () -> six.coach(6, 0));
    }

    // ---- promise 10

    private static void passengers(Edges edges) {
        edges.test(10, "what 0: the COACH (NONE: OUT), 1: WANT, 2: RANK, 3: VOTES (0 if OUT), 4: what it WISHES (NONE if OUT)",
                AnswersEdgesTest::ofPassengers)
            .test(10, "NoSuchElementException: likewise", AnswersEdgesTest::noSuchPassenger);
    }

    private static void ofPassengers() {
        CoachesVote x = Check.told(FORK, "++b", "0a9;1b1;1c5;0d3;2a4");
        Check.say(x, "r+2").rule();
        int[][] due = {{-1, 0, 9, 0, -1}, {1, 1, 1, 3, 0}, {1, 2, 5, 7, 1}, {0, 3, 3, 5, 2}, {2, 0, 4, 6, 2}};
        for (int i = 0; i < 5; i++) {
            for (int what = 0; what < 5; what++) {
                Check.same("passenger " + i + ", " + what, x.passenger(i, what), due[i][what]);
            }
        }
        x.go(0, 2);
        int[] out = {-1, 1, 1, 0, -1};
        for (int what = 0; what < 5; what++) {
            Check.same("arrived, " + what, x.passenger(1, what), out[what]);
        }
    }

    private static void noSuchPassenger() {
        asMany("passenger", CoachesVote::passenger, 7, 5);
        Check.none("passenger 0 of none", () -> new CoachesVote().passenger(0, 0));
        CoachesVote full = Check.told(FORK, "+", "0b9;".repeat(11) + "0b9");
        Check.same("the last of twelve", full.passenger(11, 0), 0);
        Check.none("passenger 12", () -> full.passenger(12, 0));
    }

    // ---- promise 11

    private static void sheets(Edges edges) {
        edges.test(11, "bytes (kind 0), shorts (1), ints (2) of n entries f, f + step, ..", AnswersEdgesTest::entries)
            .test(11, "of bytes, shorts the lowest bits, with their sign", AnswersEdgesTest::lowestBits)
            .test(11, "put to 1 .. 9", AnswersEdgesTest::putToRanks)
            .test(11, "those behind it have 1: the sum of all", AnswersEdgesTest::behindIt)
            .test(11, "-2: n below 0 (of kinds 0 .. 2; nothing changes)", AnswersEdgesTest::below)
            .test(11, "-3: missing (all 1)", AnswersEdgesTest::missing)
            .test(11, "NONE: another kind, n above 12 (these first)", AnswersEdgesTest::theseFirst);
    }

    private static CoachesVote three() {
        return Check.told(FORK, "+", "0b5;0a6;0c7");
    }

    private static void sheet(int kind, int n, int f, int step, int... due) {
        CoachesVote x = three();
        Check.same("sheet " + kind + " " + n + " " + f + " " + step, x.sheet(kind, n, f, step), due[0] + due[1] + due[2]);
        for (int i = 0; i < 3; i++) {
            Check.same("rank " + i + " by sheet " + kind + " " + n + " " + f + " " + step, x.passenger(i, 2), due[i]);
        }
    }

    private static void entries() {
        for (int kind = 0; kind < 3; kind++) {
            sheet(kind, 3, 2, 3, 2, 5, 8);
            sheet(kind, 3, 9, -4, 9, 5, 1);
            sheet(kind, 3, 4, 0, 4, 4, 4);
            sheet(kind, 3, 0, 1, 1, 1, 2);
        }
        sheet(2, 3, Integer.MAX_VALUE, 1, 9, 1, 1);
        sheet(2, 3, Integer.MIN_VALUE, -1, 1, 9, 9);
        sheet(2, 3, 3, Integer.MIN_VALUE, 3, 1, 3);
    }

    private static void lowestBits() {
        sheet(0, 3, 127, 1, 9, 1, 1);
        sheet(0, 3, -128, -1, 1, 9, 9);
        sheet(0, 3, 255, 1, 1, 1, 1);
        sheet(0, 3, 256 + 4, 256, 4, 4, 4);
        sheet(0, 3, 4 - 256, 65536, 4, 4, 4);
        sheet(1, 3, 32767, 1, 9, 1, 1);
        sheet(1, 3, -32768, -1, 1, 9, 9);
        sheet(1, 3, 65535, 1, 1, 1, 1);
        sheet(1, 3, 65536 + 4, 65536, 4, 4, 4);
        sheet(1, 3, 128, 128, 9, 9, 9);
        sheet(1, 3, 256 + 4, 256, 9, 9, 9);
        sheet(2, 3, 65536 + 4, 65536, 9, 9, 9);
        sheet(2, 3, 32768, 32768, 9, 9, 9);
    }

    private static void putToRanks() {
        for (int kind = 0; kind < 3; kind++) {
            sheet(kind, 3, -1, 1, 1, 1, 1);
            sheet(kind, 3, 0, 1, 1, 1, 2);
            sheet(kind, 3, 8, 1, 8, 9, 9);
            sheet(kind, 3, 10, 1, 9, 9, 9);
            sheet(kind, 3, -100, 1, 1, 1, 1);
        }
    }

    private static void behindIt() {
        for (int kind = 0; kind < 3; kind++) {
            sheet(kind, 0, 7, 1, 1, 1, 1);
            sheet(kind, 1, 7, 1, 7, 1, 1);
            sheet(kind, 2, 7, 1, 7, 8, 1);
            sheet(kind, 3, 7, 1, 7, 8, 9);
            sheet(kind, 4, 7, 1, 7, 8, 9);
            sheet(kind, 12, 7, 1, 7, 8, 9);
            Check.same("of none", new CoachesVote().sheet(kind, 12, 7, 1), 0);
        }
        CoachesVote full = Check.told(FORK, "+", "0b5;".repeat(11) + "0b5");
        Check.same("all nines", full.sheet(2, 12, 9, 0), 108);
        Check.same("eleven nines", full.sheet(2, 11, 9, 0), 100);
        Check.same("the twelfth", full.passenger(11, 2), 1);
        Check.same("none", full.sheet(2, 0, 9, 0), 12);
    }

    private static void below() {
        for (int kind = 0; kind < 3; kind++) {
            int of = kind;
            Looks.refused("n -1, kind " + kind, Looks::busy, x -> x.sheet(of, -1, 4, 1), -2);
            Looks.refused("the least n, kind " + kind, Looks::busy, x -> x.sheet(of, Integer.MIN_VALUE, 4, 1), -2);
            Check.same("n 0", three().sheet(kind, 0, 4, 1), 3);
        }
    }

    private static void missing() {
        for (int n : new int[] {Integer.MIN_VALUE, -1, 0, 1, 12}) {
            CoachesVote x = three();
            Check.same("missing, n " + n, x.sheet(3, n, 9, 9), -3);
            for (int i = 0; i < 3; i++) {
                Check.same("1", x.passenger(i, 2), 1);
            }
        }
        Check.same("of none", new CoachesVote().sheet(3, 0, 0, 0), -3);
        // The same as a sheet without entries, of which nothing but RANKS changes.
        Looks.same("missing", () -> {
            CoachesVote x = Looks.busy();
            x.sheet(3, 5, 9, 9);
            return x;
        }, () -> {
            CoachesVote x = Looks.busy();
            x.sheet(2, 0, 9, 9);
            return x;
        }, true);
    }

    private static void theseFirst() {
        for (int kind : new int[] {Integer.MIN_VALUE, -1, 4, 5, Integer.MAX_VALUE}) {
            for (int n : new int[] {Integer.MIN_VALUE, -1, 0, 12, 13}) {
                Looks.refused("kind " + kind + ", n " + n, Looks::busy, x -> x.sheet(kind, n, 4, 1), -1);
            }
        }
        for (int kind = 0; kind <= 3; kind++) {
            int of = kind;
            Looks.refused("n 13, kind " + kind, Looks::busy, x -> x.sheet(of, 13, 4, 1), -1);
            Looks.refused("the greatest n, kind " + kind, Looks::busy, x -> x.sheet(of, Integer.MAX_VALUE, 4, 1), -1);
            Check.same("n 12", three().sheet(kind, 12, 1, 1), kind == 3 ? -3 : 6);
        }
    }
}
