import java.util.NoSuchElementException;

/** What the tests share: telling texts, and comparing answers and rows. */
final class Check {
    private static int wrong;
    private static int looked;

    private Check() {
    }

    /** A call that may throw. */
    interface Call {
        long make();
    }

    static void same(String what, long got, long due) {
        looked++;
        if (got != due) {
            wrong++;
            System.out.println(what + ": " + got + ", due is " + due);
        }
    }

    static void yes(String what, boolean got) {
        same(what, got ? 1 : 0, 1);
    }

    static void no(String what, boolean got) {
        same(what, got ? 1 : 0, 0);
    }

    /** The ROW has these numbers and no more. */
    static void row(String what, CoachesVote x, long... due) {
        same(what + ", numbers of the row", x.count(10), due.length);
        for (int i = 0; i < due.length && i < x.count(10); i++) {
            same(what + ", number " + i + " of the row", x.row(i), due[i]);
        }
        none(what + ", behind the row's end", () -> x.row(due.length));
    }

    /** The call throws NoSuchElementException. */
    static void none(String what, Call call) {
        looked++;
        try {
            long got = call.make();
            wrong++;
            System.out.println(what + ": " + got + ", due is NoSuchElementException");
        } catch (NoSuchElementException e) {
            // as due
        }
    }

    static CoachesVote say(CoachesVote x, String text) {
        x.end(0);
        for (int p = 0; p < text.length(); p += 4) {
            int v = 0;
            for (int i = p; i < p + 4; i++) {
                v = v << 8 | (i < text.length() ? text.charAt(i) : 0);
            }
            x.sign(v);
        }
        x.end(text.length());
        return x;
    }

    /** A net, coaches and passengers; texts that must be right. */
    static CoachesVote told(String net, String coaches, String passengers) {
        CoachesVote x = new CoachesVote();
        same("net " + net, say(x, net).net(), net.charAt(0) - '0');
        same("coaches " + coaches, say(x, coaches).coaches(), coaches.length());
        same("passengers " + passengers, say(x, passengers).passengers(), (passengers.length() + 1) / 4);
        return x;
    }

    static int wrongs() {
        return wrong;
    }

    static void finish(String name) {
        System.out.println(name + ": " + looked + " answers, " + wrong + " not as due");
        System.exit(wrong == 0 ? 0 : 1);
    }
}
