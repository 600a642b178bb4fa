import java.util.ArrayList;
import java.util.Arrays;
import java.util.List;
import java.util.NoSuchElementException;

/**
 * All that calls tell of an object, so that two objects can be compared: what it shows at once, what can be
 * undone, what is kept, what was seen, what THE TEXT holds. Some of these looks change the object, so each is
 * cast on an object of its own.
 */
final class Looks {
    private Looks() {
    }

    /** A state that can be made again and again. */
    interface State {
        CoachesVote make();
    }

    /** A call on an object. */
    interface Call {
        long on(CoachesVote x);
    }

    /** A look, as numbers. */
    private interface Look {
        List<Long> at(CoachesVote x, boolean withRow);
    }

    private static final String[] NAMES = {"what it shows", "what can be undone", "what is kept under 0", "what is kept under 1",
        "what is kept under 2", "what was seen", "the text as a rule", "the text as a net", "the text as a night"};
    private static final List<Look> LOOKS = List.of(Looks::surface, Looks::undone, (x, r) -> kept(x, 0), (x, r) -> kept(x, 1),
        (x, r) -> kept(x, 2), (x, r) -> seen(x), (x, r) -> text(x, CoachesVote::rule), (x, r) -> text(x, CoachesVote::net),
        (x, r) -> text(x, CoachesVote::night));

    /** The two states show the same; withRow: in the ROW, too. */
    static void same(String what, State got, State due, boolean withRow) {
        for (int i = 0; i < NAMES.length; i++) {
            List<Long> a = LOOKS.get(i).at(got.make(), withRow);
            List<Long> b = LOOKS.get(i).at(due.make(), withRow);
            Check.yes(what + ": " + NAMES[i] + " is " + a + ", due is " + b, a.equals(b));
        }
    }

    private static State behind(State state, Call call) {
        return () -> {
            CoachesVote x = state.make();
            call.on(x);
            return x;
        };
    }

    /** The call answers so, and changes nothing. */
    static void refused(String what, State state, Call call, long due) {
        Check.same(what, call.on(state.make()), due);
        same(what + " changes nothing", behind(state, call), state, true);
    }

    /** The call throws NoSuchElementException, and changes nothing. */
    static void none(String what, State state, Call call) {
        Check.none(what, () -> call.on(state.make()));
        same(what + " changes nothing", behind(state, x -> {
            try {
                return call.on(x);
            } catch (NoSuchElementException e) {
                return 0;
            }
        }), state, true);
    }

    /** The call reads this text, answers so, and changes nothing but THE TEXT, which is empty then. */
    static void refusedText(String what, State state, String text, Call call, long due) {
        CoachesVote x = Check.say(state.make(), text);
        Check.same(what + " of " + text, call.on(x), due);
        Check.same(what + " of " + text + " empties the text", x.count(11), 0);
        State told = () -> Check.say(state.make(), text);
        same(what + " of " + text + " changes nothing", behind(told, call), behind(state, y -> y.end(0) ? 1 : 0), true);
    }

    /** The call answers so, and changes nothing but the ROW. */
    static void asked(String what, State state, Call call, long due) {
        Check.same(what, call.on(state.make()), due);
        same(what + " changes nothing but the row", behind(state, call), state, false);
    }

    /** The call reads this text, answers so, and changes nothing but the ROW and THE TEXT, which is empty then. */
    static void askedText(String what, State state, String text, Call call, long due) {
        State told = () -> Check.say(state.make(), text);
        Check.same(what + " of " + text, call.on(told.make()), due);
        same(what + " of " + text + " changes nothing but the row", behind(told, call), behind(state, y -> y.end(0) ? 1 : 0), false);
    }

    // ---- the looks

    private static List<Long> surface(CoachesVote x, boolean withRow) {
        List<Long> all = new ArrayList<>();
        for (int what = 0; what < 12; what++) {
            all.add(what == 10 && !withRow ? 0L : x.count(what));
        }
        for (int i = 0; withRow && i < x.count(10); i++) {
            all.add(x.row(i));
        }
        for (int halt = 0; halt < x.count(0); halt++) {
            for (int what = 0; what < 6; what++) {
                all.add((long) x.halt(halt, what));
            }
        }
        for (int coach = 0; coach < x.count(1); coach++) {
            for (int what = 0; what < 7; what++) {
                all.add((long) x.coach(coach, what));
            }
        }
        for (int passenger = 0; passenger < x.count(2); passenger++) {
            for (int what = 0; what < 5; what++) {
                all.add((long) x.passenger(passenger, what));
            }
        }
        return all;
    }

    private static void places(CoachesVote x, List<Long> all) {
        all.addAll(Arrays.asList((long) x.count(3), (long) x.count(4)));
        for (int coach = 0; coach < x.count(1); coach++) {
            all.addAll(Arrays.asList((long) x.coach(coach, 0), (long) x.coach(coach, 1)));
        }
        for (int passenger = 0; passenger < x.count(2); passenger++) {
            all.add((long) x.passenger(passenger, 0));
        }
    }

    private static List<Long> undone(CoachesVote x, boolean withRow) {
        List<Long> all = new ArrayList<>();
        for (int i = 0; i < 17; i++) {
            all.add((long) x.undo());
            places(x, all);
        }
        return all;
    }

    private static List<Long> kept(CoachesVote x, int i) {
        List<Long> all = new ArrayList<>();
        all.add(x.again(i) ? 1L : 0L);
        places(x, all);
        return all;
    }

    private static List<Long> seen(CoachesVote x) {
        List<Long> all = new ArrayList<>();
        all.add((long) x.rows());
        for (int k = 0; k < 14; k++) {
            all.add((long) x.been(k));
        }
        all.add((long) x.ask());
        all.add((long) x.forget());
        return all;
    }

    private static List<Long> text(CoachesVote x, Call reader) {
        List<Long> all = new ArrayList<>();
        all.add(reader.on(x));
        all.addAll(surface(x, false));
        return all;
    }

    // ---- states

    /** The net of busy(), of which d is come to by b alone, and c has no exit. */
    static final String NET = "4:b3c5;d2-;--;a9-";

    /** All there is: a rule, coaches in the train and not, one OUT, acts, two states kept, things seen, a ROW, a TEXT. */
    static CoachesVote busy() {
        CoachesVote x = Check.told(NET, "++a+d", "0d2;1c3;3d4;2b5;4a6;0a7;1d1");
        Check.same("rule", Check.say(x, "r+c").rule(), 0);
        x.keep(0);
        x.stand(7);
        Check.same("walk", x.walk(1, 0), 1);
        x.keep(2);
        Check.same("go", x.go(0, 2), 3);
        x.seen(2, 0, 1);
        x.seen(0, 2, 0);
        x.seen(1, 1, 0);
        Check.same("way", x.way(0, 3), 5);
        return Check.say(x, "7-r");
    }
}
