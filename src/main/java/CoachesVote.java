import java.util.NoSuchElementException;

/**
 * An express whose coaches vote at each halt.
 *
 * <p>All rows that calls need are made with the object, since what calls make is never given back.
 */
public final class CoachesVote {
    public static final int NONE = -1;

    private static final int LEFT = 0;
    private static final int RIGHT = 1;
    private static final int STAY = 2;

    private static final int MOST_HALTS = 9;
    private static final int MOST_COACHES = 6;
    private static final int MOST_PASSENGERS = 12;
    private static final int MOST_RUNS = 30;
    private static final int MOST_SEEN = 12;
    private static final int MOST_STEPS = 12;
    private static final int MOST_UNDONE = 15;
    private static final int MOST_KEPT = 3;
    private static final int MOST_TO_STAY_AWAY = 8;
    private static final int MOST_RUNS_OF_MOVES = 12;

    private static final int TEXT_SIGNS = 80;
    private static final int NET_SIGNS = 46;
    private static final int PASSENGERS_SIGNS = 47;
    private static final int RULE_SIGNS = 40;
    private static final int NIGHT_SIGNS = 60;
    private static final int NO_SIGN = -1;

    /** Above every sum of shortest ways, and so low that some of it added never wrap. */
    private static final int FAR = 100000;

    private final Text text = new Text();
    private final Net net = new Net();
    private final Net spareNet = new Net();
    private final Riders riders = new Riders();
    private final Train train = new Train();
    private final Train before = new Train();
    private final Train trial = new Train();
    private final Rule rule = new Rule();
    private final Rule spareRule = new Rule();
    private final Runner runner = new Runner();
    private final Past past = new Past();
    private final Sightings sightings = new Sightings();
    private final Tour tour = new Tour();
    private final Row told = new Row();
    private int drawn;

    public CoachesVote() {
    }

    // ---- the net, coaches, passengers: promises 2 to 11

    public int sign(int v) {
        if (text.length + 4 > TEXT_SIGNS) {
            return NONE;
        }
        text.addFour(v);
        return text.length;
    }

    public boolean end(int n) {
        if (n < 0 || n > text.length) {
            return false;
        }
        text.length = n;
        return true;
    }

    public int net() {
        text.boundBy(NET_SIGNS);
        int answer = spareNet.read(text);
        text.length = 0;
        if (answer > 0) {
            net.copyFrom(spareNet);
            net.measure();
            train.empty();
            riders.number = 0;
            sightings.clear();
            past.forgetAll();
        }
        return answer;
    }

    public int coaches() {
        int answer = checkCoaches();
        for (int p = 0; p < answer; p++) {
            train.add(text.numberAt(p, 'a', net.halts));
        }
        text.length = 0;
        if (answer > 0) {
            past.forgetAll();
        }
        return answer;
    }

    public int passengers() {
        text.boundBy(PASSENGERS_SIGNS);
        int answer = text.length == 0 ? 0 : checkPassengers();
        for (int line = 0; line < answer; line++) {
            addPassenger(4 * line);
        }
        text.length = 0;
        if (answer > 0) {
            train.letOut(riders);
            past.forgetAll();
        }
        return answer;
    }

    public int rule() {
        int answer = spareRule.read(text);
        text.length = 0;
        if (answer == 0) {
            rule.copyFrom(spareRule);
        }
        return answer;
    }

    public int halt(int halt, int what) throws NoSuchElementException {
        if (halt < 0 || halt >= net.halts || what < 0 || what > 5) {
            throw new NoSuchElementException("no such halt, or nothing such of it");
        }
        if (what < 2) {
            return net.to[2 * halt + what];
        }
        if (what < 4) {
            return net.minutes[2 * halt + what - 2];
        }
        if (what == 4) {
            return train.standingAt(halt);
        }
        return train.engine == halt ? 1 : 0;
    }

    public int coach(int coach, int what) throws NoSuchElementException {
        if (!train.has(coach) || what < 0 || what > 6) {
            throw new NoSuchElementException("no such coach, or nothing such of it");
        }
        if (what == 0) {
            return train.haltOf(coach);
        }
        if (what == 1) {
            return train.places[coach];
        }
        if (what == 2) {
            return train.inside(coach, riders.number);
        }
        Voting voting = heldVote();
        return what == 3 ? voting.voteOf(coach) : voting.sums[3 * coach + what - 4];
    }

    public int passenger(int passenger, int what) throws NoSuchElementException {
        if (!riders.has(passenger) || what < 0 || what > 4) {
            throw new NoSuchElementException("no such passenger, or nothing such of it");
        }
        if (what == 0) {
            return train.seats[passenger];
        }
        if (what == 1) {
            return riders.wants[passenger];
        }
        if (what == 2) {
            return riders.ranks[passenger];
        }
        Voting voting = heldVote();
        return what == 3 ? voting.votes[passenger] : voting.wishes[passenger];
    }

    public int sheet(int kind, int n, int f, int step) {
        if (kind < 0 || kind > 3 || n > MOST_PASSENGERS) {
            return NONE;
        }
        if (kind < 3 && n < 0) {
            return -2;
        }
        int entries = kind == 3 ? 0 : n;
        int sum = 0;
        for (int i = 0; i < riders.number; i++) {
            int entry = i < entries ? entryOf(kind, f + i * step) : 1;
            riders.ranks[i] = Math.max(1, Math.min(9, entry));
            sum += riders.ranks[i];
        }
        return kind == 3 ? -3 : sum;
    }

    // ---- acts: promises 12 to 19

    public int run() {
        before.copyFrom(train);
        int course = makeRun();
        past.add(before);
        told.clear();
        told.add(runner.left);
        told.add(runner.out);
        told.add(runner.minutes);
        return course;
    }

    public int go(int exit, int n) {
        before.copyFrom(train);
        int answer = drive(exit, n);
        if (answer >= 0) {
            told.clear();
            told.add(train.outBits(riders.number) & ~before.outBits(riders.number));
        }
        return noted(answer);
    }

    public int couple() {
        before.copyFrom(train);
        return noted(takeStanding());
    }

    public int cut(int n) {
        before.copyFrom(train);
        return noted(uncouple(n));
    }

    public int walk(int passenger, int coach) {
        before.copyFrom(train);
        return noted(changeCoach(passenger, coach));
    }

    public int stand(int n) {
        before.copyFrom(train);
        return noted(letPass(n));
    }

    public int night() {
        text.boundBy(NIGHT_SIGNS);
        int fault = checkNight();
        if (fault < 0) {
            text.length = 0;
            return fault;
        }
        before.copyFrom(train);
        int done = 0;
        boolean refused = false;
        int p = 0;
        for (int i = 0; i < NIGHT_SIGNS && p < text.length && !refused; i++) {
            refused = doAct(p) < 0;
            done += refused ? 0 : 1;
            p = actEnd(p);
        }
        text.length = 0;
        if (done > 0) {
            past.add(before);
        }
        told.clear();
        told.add(refused ? 1 : 0);
        told.add(outMoreThan(before, train));
        return done;
    }

    public int undo() {
        if (past.number == 0) {
            return NONE;
        }
        past.back(train);
        return past.number;
    }

    // ---- ways, votes: promises 20 to 26

    public int way(int from, int to) {
        if (!net.has(from) || !net.has(to)) {
            return NONE;
        }
        int minutes = net.between(from, to);
        if (minutes >= FAR) {
            return -2;
        }
        told.clear();
        told.add(from);
        int at = from;
        for (int i = 0; i < MOST_HALTS && at != to; i++) {
            at = net.nextOnWay(at, to);
            told.add(at);
        }
        return minutes;
    }

    public int course() {
        trial.copyFrom(train);
        int course = runner.once(net, trial, riders, rule, false);
        told.clear();
        told.add(runner.left);
        for (int wish = LEFT; wish <= STAY; wish++) {
            told.add(runner.voting.all[wish]);
        }
        return course;
    }

    public int ahead(int n) {
        if (n < 0 || n > MOST_RUNS) {
            return NONE;
        }
        trial.copyFrom(train);
        int more = outMoreIn(n, net, rule, false);
        told.clear();
        told.add(trial.engine);
        told.add(trial.now);
        told.add(trial.trainBits());
        return more;
    }

    public int arrives(int passenger) {
        if (!riders.has(passenger)) {
            return NONE;
        }
        trial.copyFrom(train);
        int runs = runsTillOut(passenger, MOST_RUNS);
        if (runs == NONE) {
            return -2;
        }
        told.clear();
        told.add(trial.now);
        return runs;
    }

    public int tips(int coach) {
        if (!train.has(coach)) {
            return NONE;
        }
        Voting voting = heldVote();
        int found = 0;
        for (int i = 0; i < riders.number; i++) {
            if (train.seats[i] == coach && voting.isTipping(coach, i)) {
                found |= 1 << i;
            }
        }
        told.clear();
        told.add(Integer.bitCount(found));
        return found;
    }

    public int power(int passenger) {
        if (!riders.has(passenger)) {
            return NONE;
        }
        if (!train.carries(passenger)) {
            return -2;
        }
        Voting voting = heldVote();
        int others = train.carriedBits(riders.number) & ~(1 << passenger);
        int total = voting.all[LEFT] + voting.all[RIGHT] + voting.all[STAY];
        int own = voting.votes[passenger];
        int sets = 1 << Integer.bitCount(others);
        int found = 0;
        int set = 0;
        int left = own;
        for (int i = 0; i < sets; i++) {
            boolean wins = left >= total - left;
            boolean losesWithoutIt = left - own < total - left + own;
            found += wins && losesWithoutIt ? 1 : 0;
            // The next set differs in few bits mostly, so only these are added up.
            int next = (set - others) & others;
            left += voting.votesIn(next & ~set) - voting.votesIn(set & ~next);
            set = next;
        }
        tellFraction(found, sets);
        return found;
    }

    public int lobby(int coach, int wish) {
        if (!train.has(coach) || wish < LEFT || wish > STAY) {
            return NONE;
        }
        Voting voting = heldVote();
        int others = voting.othersThan(wish) & train.inside(coach, riders.number);
        int sets = 1 << Integer.bitCount(others);
        int fewest = MOST_PASSENGERS + 1;
        int best = 0;
        int set = 0;
        for (int i = 0; i < sets; i++) {
            int size = Integer.bitCount(set);
            // Sets come from the least on, so a later one of the same size is never better.
            if (size < fewest && voting.voteIfWon(coach, set, wish) == wish) {
                fewest = size;
                best = set;
            }
            set = (set - others) & others;
        }
        if (fewest > MOST_PASSENGERS) {
            return -2;
        }
        told.clear();
        told.add(best);
        return fewest;
    }

    // ---- seats, exits: promises 27 to 30

    public int seat(int passenger) {
        if (!riders.has(passenger)) {
            return NONE;
        }
        if (!train.carries(passenger)) {
            return -3;
        }
        int best = -2;
        int fewest = MOST_RUNS + 1;
        for (int coach = 0; coach < train.coaches; coach++) {
            if (train.places[coach] != NONE) {
                trial.copyFrom(train);
                trial.seats[passenger] = coach;
                int runs = runsTillOut(passenger, fewest - 1);
                if (runs != NONE) {
                    best = coach;
                    fewest = runs;
                }
            }
        }
        if (best >= 0) {
            told.clear();
            told.add(fewest);
        }
        return best;
    }

    public int reseat(int n) {
        if (n < 1 || n > MOST_RUNS_OF_MOVES) {
            return NONE;
        }
        trial.copyFrom(train);
        int most = outMoreIn(n, net, rule, false);
        int who = NONE;
        int where = NONE;
        for (int passenger = 0; passenger < riders.number; passenger++) {
            for (int coach = 0; coach < train.coaches; coach++) {
                int more = NONE;
                if (canMove(passenger, coach)) {
                    trial.copyFrom(train);
                    trial.seats[passenger] = coach;
                    more = outMoreIn(n, net, rule, false);
                }
                if (more > most) {
                    most = more;
                    who = passenger;
                    where = coach;
                }
            }
        }
        told.clear();
        told.add(who);
        told.add(where);
        return most;
    }

    public int close(int n) {
        if (n < 1 || n > MOST_RUNS_OF_MOVES) {
            return NONE;
        }
        trial.copyFrom(train);
        int most = outMoreIn(n, net, rule, false);
        int best = -3;
        for (int exit = 0; exit < 2 * net.halts; exit++) {
            spareNet.copyFrom(net);
            spareNet.shut(exit);
            trial.copyFrom(train);
            int more = outMoreIn(n, spareNet, rule, false);
            if (more > most) {
                most = more;
                best = exit;
            }
        }
        told.clear();
        told.add(most);
        return best;
    }

    public int fetch(int last) {
        if (!net.has(last)) {
            return NONE;
        }
        tour.plan(net, train, last);
        int minutes = tour.minutesInAll();
        if (minutes >= FAR) {
            return -2;
        }
        told.clear();
        tour.tellOrder(net, told);
        return minutes;
    }

    // ---- laws: promises 31 and 32

    public int law() {
        int fault = spareRule.read(text);
        text.length = 0;
        if (fault < 0) {
            return fault + 1 - 10000;
        }
        trial.copyFrom(train);
        int byIt = outMoreIn(10, net, spareRule, false);
        trial.copyFrom(train);
        int asItIs = outMoreIn(10, net, rule, false);
        told.clear();
        told.add(byIt);
        told.add(asItIs);
        return byIt - asItIs;
    }

    public int heads(int n) {
        if (n < 1 || n > MOST_RUNS) {
            return NONE;
        }
        trial.copyFrom(train);
        int more = outMoreIn(n, net, rule, true);
        told.clear();
        told.add(trial.engine);
        return more;
    }

    // ---- where it was: promises 33 to 37

    public int seen(int k, int halt, int is) {
        boolean known = k >= 0 && k <= MOST_STEPS && net.has(halt) && (is == 0 || is == 1);
        if (!known || sightings.number >= MOST_SEEN) {
            return NONE;
        }
        sightings.add(k, halt, is == 1);
        return sightings.number;
    }

    public int forget() {
        int number = sightings.number;
        sightings.clear();
        return number;
    }

    public int rows() {
        if (sightings.number == 0) {
            return NONE;
        }
        sightings.trace(net, train.engine);
        int number = sightings.waysFrom(0, train.engine);
        told.clear();
        if (number > 0) {
            sightings.tellLeast(net, train.engine, told);
        }
        return number;
    }

    public int been(int k) {
        if (sightings.number == 0 || k < 0 || k > sightings.last) {
            return NONE;
        }
        sightings.trace(net, train.engine);
        int halts = sightings.haltsBehind(k);
        told.clear();
        told.add(Integer.bitCount(halts));
        return halts;
    }

    public int ask() {
        sightings.trace(net, train.engine);
        if (sightings.number == 0 || sightings.waysFrom(0, train.engine) == 0) {
            return -2;
        }
        int best = 0;
        int most = 0;
        for (int k = 0; k <= sightings.last; k++) {
            int number = Integer.bitCount(sightings.haltsBehind(k));
            if (number > most) {
                most = number;
                best = k;
            }
        }
        told.clear();
        told.add(most);
        return best;
    }

    // ---- chance, bargains: promises 38 and 39

    public int odds(int coach, int v, int p) {
        if (!train.has(coach) || v < LEFT || v > STAY || p < 0 || p > 10) {
            return NONE;
        }
        int all = train.inside(coach, riders.number);
        int size = Integer.bitCount(all);
        if (size > MOST_TO_STAY_AWAY) {
            return -2;
        }
        Voting voting = heldVote();
        long upper = 0;
        int set = 0;
        for (int i = 0; i < 1 << size; i++) {
            if (voting.voteAmong(set) == v) {
                int present = Integer.bitCount(set);
                upper += raised(10 - p, present) * raised(p, size - present);
            }
            set = (set - all) & all;
        }
        tellFraction(upper, raised(10, size));
        return 0;
    }

    public int bargain(int t) {
        if (t < 1 || t > 20) {
            return NONE;
        }
        int found = 0;
        for (int x = 0; x <= t; x++) {
            for (int y = 0; y <= t; y++) {
                if (isAtRest(x, y, t)) {
                    if (found == 0) {
                        told.clear();
                        told.add(x);
                        told.add(y);
                    }
                    found++;
                }
            }
        }
        return found;
    }

    // ---- nights: promise 40

    public int nights(int seed, int n) {
        if (n < 1 || n > 60) {
            return NONE;
        }
        trial.copyFrom(train);
        drawn = seed;
        for (int i = 0; i < n; i++) {
            int lot = draw(5);
            if (lot < 3) {
                runner.once(net, trial, riders, rule, false);
            } else if (lot == 3) {
                trial.takeStanding();
            } else {
                drawMove();
            }
        }
        told.clear();
        told.add(trial.now);
        told.add(trial.engine);
        return outMoreThan(train, trial);
    }

    // ---- kept: promises 41 to 44

    public boolean keep(int i) {
        if (i < 0 || i >= MOST_KEPT) {
            return false;
        }
        past.keepUnder(i, train);
        return true;
    }

    public boolean again(int i) {
        if (i < 0 || i >= MOST_KEPT || !past.isKept[i]) {
            return false;
        }
        train.copyFrom(past.kept[i]);
        past.forgetActs();
        return true;
    }

    public int count(int what) {
        switch (what) {
            case 0:
                return net.halts;
            case 1:
                return train.coaches;
            case 2:
                return riders.number;
            case 3:
                return train.now;
            case 4:
                return train.engine;
            case 5:
                return train.trainBits();
            case 6:
                return train.standingBits();
            case 7:
                return train.outBits(riders.number);
            case 8:
                return sightings.number;
            case 9:
                return past.number;
            case 10:
                return told.length;
            case 11:
                return text.length;
            default:
                return -100;
        }
    }

    public long row(int i) throws NoSuchElementException {
        if (i < 0 || i >= told.length) {
            throw new NoSuchElementException("no such number of the row");
        }
        return told.numbers[i];
    }

    // ---- reading coaches, passengers, nights

    private int checkCoaches() {
        text.boundBy(TEXT_SIGNS);
        for (int p = 0; p < text.length; p++) {
            boolean known = text.at(p) == '+' || text.numberAt(p, 'a', net.halts) != NONE;
            if (!known || train.coaches + p >= MOST_COACHES) {
                return -1 - p;
            }
        }
        return text.length;
    }

    private int checkPassengers() {
        int p = 0;
        for (int line = 0; riders.number + line < MOST_PASSENGERS; line++) {
            if (text.numberAt(p, '0', train.coaches) == NONE) {
                return -1 - p;
            }
            if (text.numberAt(p + 1, 'a', net.halts) == NONE) {
                return -2 - p;
            }
            if (text.numberAt(p + 2, '1', 9) == NONE) {
                return -3 - p;
            }
            p += 3;
            if (text.length == p) {
                return line + 1;
            }
            if (text.at(p) != ';') {
                return -1 - p;
            }
            p++;
        }
        return -1 - p;
    }

    private void addPassenger(int p) {
        int coach = text.numberAt(p, '0', train.coaches);
        int want = text.numberAt(p + 1, 'a', net.halts);
        int rank = text.numberAt(p + 2, '1', 9) + 1;
        if (riders.number < MOST_PASSENGERS) {
            train.seats[riders.number] = coach;
            riders.add(want, rank);
        }
    }

    private int checkNight() {
        int p = 0;
        for (int i = 0; i < NIGHT_SIGNS && p < text.bound; i++) {
            int next = actEnd(p);
            if (next < 0) {
                return next;
            }
            p = next;
        }
        return text.length == p ? 0 : -1 - p;
    }

    /** The place behind the act at p, or -1 - q if the sign at q can't stand there. */
    private int actEnd(int p) {
        switch (text.at(p)) {
            case 'r':
            case 'c':
                return p + 1;
            case 'x':
            case 's':
                return text.digitAt(p + 1) == NONE ? -2 - p : p + 2;
            case 'g':
                return actEndBehind(p, text.numberAt(p + 1, '0', 2));
            case 'w':
                return actEndBehind(p, text.numberAt(p + 1, 'a', MOST_PASSENGERS));
            default:
                return -1 - p;
        }
    }

    private int actEndBehind(int p, int first) {
        if (first == NONE) {
            return -2 - p;
        }
        return text.digitAt(p + 2) == NONE ? -3 - p : p + 3;
    }

    private int doAct(int p) {
        switch (text.at(p)) {
            case 'r':
                return makeRun();
            case 'c':
                return takeStanding();
            case 'x':
                return uncouple(text.digitAt(p + 1));
            case 's':
                return letPass(text.digitAt(p + 1));
            case 'g':
                return drive(text.digitAt(p + 1), text.digitAt(p + 2));
            default:
                return changeCoach(text.numberAt(p + 1, 'a', MOST_PASSENGERS), text.digitAt(p + 2));
        }
    }

    // ---- acts without what undo() needs, so that a night's acts are undone as one

    private int noted(int answer) {
        if (answer >= 0) {
            past.add(before);
        }
        return answer;
    }

    private int makeRun() {
        return runner.once(net, train, riders, rule, false);
    }

    private int drive(int exit, int n) {
        if (exit < LEFT || exit > RIGHT || n < 0 || n > train.length) {
            return NONE;
        }
        int way = 2 * train.engine + exit;
        if (net.to[way] == NONE) {
            return -2;
        }
        train.leave(n, net.to[way], net.minutes[way]);
        train.letOut(riders);
        return net.minutes[way];
    }

    private int takeStanding() {
        int number = train.takeStanding();
        return number == 0 ? -2 : number;
    }

    private int uncouple(int n) {
        if (n < 1 || n > train.length) {
            return NONE;
        }
        train.shorten(train.length - n);
        return train.length;
    }

    private int changeCoach(int passenger, int coach) {
        if (!riders.has(passenger) || !train.has(coach)) {
            return NONE;
        }
        int from = train.seats[passenger];
        if (from == NONE) {
            return -2;
        }
        if (!train.areNeighbours(from, coach)) {
            return -3;
        }
        train.seats[passenger] = coach;
        train.now++;
        return from;
    }

    private int letPass(int n) {
        if (n < 0 || n > 99) {
            return NONE;
        }
        train.now += n;
        return train.now;
    }

    // ---- looking ahead, all on the trial train

    private Voting heldVote() {
        runner.voting.hold(net, train, riders, rule);
        return runner.voting;
    }

    private int outMoreThan(Train earlier, Train later) {
        return Integer.bitCount(later.outBits(riders.number)) - Integer.bitCount(earlier.outBits(riders.number));
    }

    private int outMoreIn(int n, Net by, Rule law, boolean byHeads) {
        runner.often(n, by, trial, riders, law, byHeads);
        return outMoreThan(train, trial);
    }

    private int runsTillOut(int passenger, int most) {
        int runs = 0;
        boolean goesOn = true;
        for (int i = 0; i < most && goesOn && trial.seats[passenger] != NONE; i++) {
            int course = runner.once(net, trial, riders, rule, false);
            goesOn = course != STAY || rule.usesNow;
            runs++;
        }
        return trial.seats[passenger] == NONE ? runs : NONE;
    }

    private boolean canMove(int passenger, int coach) {
        return train.carries(passenger) && train.places[coach] != NONE && train.seats[passenger] != coach;
    }

    private int draw(int n) {
        drawn = drawn * 1103515245 + 12345;
        return n < 1 ? 0 : (drawn >>> 16) % n;
    }

    private void drawMove() {
        if (riders.number == 0) {
            return;
        }
        int passenger = draw(riders.number);
        int coach = draw(train.coaches);
        if (trial.carries(passenger) && trial.places[coach] != NONE) {
            trial.seats[passenger] = coach;
        }
    }

    // ---- numbers

    /** An entry as its kind of sheet holds it: bytes and shorts lose their high bits. */
    private static int entryOf(int kind, int value) {
        if (kind == 0) {
            return (byte) value;
        }
        return kind == 1 ? (short) value : value;
    }

    private static long raised(int base, int power) {
        long value = 1;
        for (int i = 0; i < power; i++) {
            value *= base;
        }
        return value;
    }

    /** Neither gets more by another claim: each gets all that the other's claim leaves. */
    private static boolean isAtRest(int x, int y, int t) {
        boolean fits = x + y <= t;
        return (fits ? x : 0) == t - y && (fits ? y : 0) == t - x;
    }

    private void tellFraction(long upper, long lower) {
        long a = upper;
        long b = lower;
        for (int i = 0; i < 100 && b != 0; i++) {
            long rest = a % b;
            a = b;
            b = rest;
        }
        long shared = a < 1 ? 1 : a;
        told.clear();
        told.add(upper / shared);
        told.add(lower / shared);
    }

    /** THE TEXT. */
    private static final class Text {
        final int[] signs = new int[TEXT_SIGNS];
        int length;
        int bound;

        void addFour(int v) {
            for (int shift = 24; shift >= 0 && length < TEXT_SIGNS; shift -= 8) {
                signs[length] = v >>> shift & 255;
                length++;
            }
        }

        /** Signs from most on are as none, so that one reads up to there and no further. */
        void boundBy(int most) {
            bound = Math.min(length, most);
        }

        int at(int p) {
            return p >= 0 && p < bound && p < TEXT_SIGNS ? signs[p] : NO_SIGN;
        }

        /** Which of so many signs, the first one and those behind it, stands at p. */
        int numberAt(int p, int first, int many) {
            int number = at(p) - first;
            return number >= 0 && number < many ? number : NONE;
        }

        int digitAt(int p) {
            int digit = at(p) - '0';
            return digit >= 0 && digit < 10 ? digit : NONE;
        }
    }

    /** The ROW. */
    private static final class Row {
        final long[] numbers = new long[MOST_STEPS];
        int length;

        void clear() {
            length = 0;
        }

        void add(long number) {
            if (length < MOST_STEPS) {
                numbers[length] = number;
                length++;
            }
        }
    }

    /** THE NET; exit e of a halt stands at 2 times the halt and e. */
    private static final class Net {
        int halts = 1;
        final int[] to = new int[2 * MOST_HALTS];
        final int[] minutes = new int[2 * MOST_HALTS];
        final int[] ways = new int[MOST_HALTS * MOST_HALTS];

        Net() {
            for (int exit = 0; exit < 2 * MOST_HALTS; exit++) {
                to[exit] = NONE;
            }
        }

        void copyFrom(Net other) {
            halts = other.halts;
            System.arraycopy(other.to, 0, to, 0, 2 * MOST_HALTS);
            System.arraycopy(other.minutes, 0, minutes, 0, 2 * MOST_HALTS);
        }

        boolean has(int halt) {
            return halt >= 0 && halt < halts;
        }

        /** How many halts, or -1 - p if the sign at p can't stand there. */
        int read(Text text) {
            int many = text.numberAt(0, '1', MOST_HALTS) + 1;
            if (many < 1) {
                return -1;
            }
            halts = many;
            int p = 1;
            for (int exit = 0; exit < 2 * many; exit++) {
                if (exit % 2 == 0) {
                    if (text.at(p) != (exit == 0 ? ':' : ';')) {
                        return -1 - p;
                    }
                    p++;
                }
                p = readExit(text, p, exit);
                if (p < 0) {
                    return p;
                }
            }
            return text.length == p ? many : -1 - p;
        }

        /** The place behind the exit at p, or -1 - q if the sign at q can't stand there. */
        int readExit(Text text, int p, int exit) {
            to[exit] = NONE;
            minutes[exit] = 0;
            if (text.at(p) == '-') {
                return p + 1;
            }
            int halt = text.numberAt(p, 'a', halts);
            if (halt == NONE) {
                return -1 - p;
            }
            int digit = text.numberAt(p + 1, '1', 9);
            if (digit == NONE) {
                return -2 - p;
            }
            to[exit] = halt;
            minutes[exit] = digit + 1;
            return p + 2;
        }

        void shut(int exit) {
            to[exit] = NONE;
            minutes[exit] = 0;
            measure();
        }

        /** Finds all shortest ways anew. */
        void measure() {
            for (int from = 0; from < halts; from++) {
                for (int at = 0; at < halts; at++) {
                    ways[from * MOST_HALTS + at] = from == at ? 0 : FAR;
                }
            }
            for (int exit = 0; exit < 2 * halts; exit++) {
                if (to[exit] != NONE) {
                    int way = exit / 2 * MOST_HALTS + to[exit];
                    ways[way] = Math.min(ways[way], minutes[exit]);
                }
            }
            for (int by = 0; by < halts; by++) {
                for (int from = 0; from < halts; from++) {
                    if (ways[from * MOST_HALTS + by] < FAR) {
                        shortenBy(by, from);
                    }
                }
            }
        }

        void shortenBy(int by, int from) {
            int first = ways[from * MOST_HALTS + by];
            for (int at = 0; at < halts; at++) {
                int way = from * MOST_HALTS + at;
                ways[way] = Math.min(ways[way], first + ways[by * MOST_HALTS + at]);
            }
        }

        /** Minutes of the shortest way; FAR or more without. */
        int between(int from, int at) {
            return ways[from * MOST_HALTS + at];
        }

        boolean beginsWay(int exit, int want) {
            return to[exit] != NONE && minutes[exit] + between(to[exit], want) == between(exit / 2, want);
        }

        int wishAt(int from, int want) {
            if (from == want || between(from, want) >= FAR) {
                return STAY;
            }
            return beginsWay(2 * from, want) ? LEFT : RIGHT;
        }

        /** The least halt that a shortest way can come to next; there is one, if there is a way. */
        int nextOnWay(int from, int want) {
            int left = beginsWay(2 * from, want) ? to[2 * from] : MOST_HALTS;
            int right = beginsWay(2 * from + 1, want) ? to[2 * from + 1] : MOST_HALTS;
            int least = Math.min(left, right);
            return least < MOST_HALTS ? least : want;
        }
    }

    /** What of the passengers no act changes. */
    private static final class Riders {
        int number;
        final int[] wants = new int[MOST_PASSENGERS];
        final int[] ranks = new int[MOST_PASSENGERS];

        boolean has(int passenger) {
            return passenger >= 0 && passenger < number;
        }

        void add(int want, int rank) {
            if (number < MOST_PASSENGERS) {
                wants[number] = want;
                ranks[number] = rank;
                number++;
            }
        }
    }

    /** Where the engine, coaches and passengers are, and NOW: all that is kept and undone. */
    private static final class Train {
        int engine;
        int now;
        int coaches;
        int length;
        final int[] order = new int[MOST_COACHES];
        final int[] places = new int[MOST_COACHES];
        final int[] stands = new int[MOST_COACHES];
        final int[] seats = new int[MOST_PASSENGERS];

        void copyFrom(Train other) {
            engine = other.engine;
            now = other.now;
            coaches = other.coaches;
            length = other.length;
            System.arraycopy(other.order, 0, order, 0, MOST_COACHES);
            System.arraycopy(other.places, 0, places, 0, MOST_COACHES);
            System.arraycopy(other.stands, 0, stands, 0, MOST_COACHES);
            System.arraycopy(other.seats, 0, seats, 0, MOST_PASSENGERS);
        }

        void empty() {
            engine = 0;
            now = 0;
            coaches = 0;
            length = 0;
        }

        boolean has(int coach) {
            return coach >= 0 && coach < coaches;
        }

        /** A coach more, at a halt, or (NONE) at the train's end. */
        void add(int halt) {
            if (coaches >= MOST_COACHES) {
                return;
            }
            int coach = coaches;
            coaches++;
            if (halt == NONE) {
                append(coach);
            } else {
                places[coach] = NONE;
                stands[coach] = halt;
            }
        }

        void append(int coach) {
            if (length < MOST_COACHES) {
                places[coach] = length;
                order[length] = coach;
                length++;
            }
        }

        int haltOf(int coach) {
            return places[coach] == NONE ? stands[coach] : engine;
        }

        int standingAt(int halt) {
            int found = 0;
            for (int coach = 0; coach < coaches; coach++) {
                if (places[coach] == NONE && stands[coach] == halt) {
                    found |= 1 << coach;
                }
            }
            return found;
        }

        int trainBits() {
            int found = 0;
            for (int place = 0; place < length; place++) {
                found |= 1 << order[place];
            }
            return found;
        }

        int standingBits() {
            return (1 << coaches) - 1 & ~trainBits();
        }

        int inside(int coach, int passengers) {
            int found = 0;
            for (int i = 0; i < passengers; i++) {
                if (seats[i] == coach) {
                    found |= 1 << i;
                }
            }
            return found;
        }

        int outBits(int passengers) {
            return inside(NONE, passengers);
        }

        boolean carries(int passenger) {
            return seats[passenger] != NONE && places[seats[passenger]] != NONE;
        }

        int carriedBits(int passengers) {
            int found = 0;
            for (int i = 0; i < passengers; i++) {
                if (carries(i)) {
                    found |= 1 << i;
                }
            }
            return found;
        }

        boolean areNeighbours(int a, int b) {
            return places[a] != NONE && places[b] != NONE && Math.abs(places[a] - places[b]) == 1;
        }

        /** Coaches behind the first along ones stand here from now on: they, as bits. */
        int shorten(int along) {
            int left = 0;
            for (int place = along; place < length; place++) {
                int coach = order[place];
                places[coach] = NONE;
                stands[coach] = engine;
                left |= 1 << coach;
            }
            length = Math.min(length, along);
            return left;
        }

        int leave(int along, int halt, int minutes) {
            int left = shorten(along);
            engine = halt;
            now += minutes;
            return left;
        }

        int takeStanding() {
            int here = standingAt(engine);
            for (int coach = 0; coach < coaches; coach++) {
                if ((here >> coach & 1) == 1) {
                    append(coach);
                }
            }
            return Integer.bitCount(here);
        }

        /** Passengers where they wished to be get out: they, as bits. */
        int letOut(Riders riders) {
            int out = 0;
            for (int i = 0; i < riders.number; i++) {
                if (seats[i] != NONE && haltOf(seats[i]) == riders.wants[i]) {
                    seats[i] = NONE;
                    out |= 1 << i;
                }
            }
            return out;
        }
    }

    /** THE RULE, put so that each operation stands behind what it is done on. */
    private static final class Rule {
        /** From here on codes are things of a passenger, below are numbers; operations are below 0. */
        static final int THINGS = 1000;
        static final int NEGATE = -1;
        /** The thing n. */
        static final int NOW = 5;

        /** Levels of a text: each binds closer than the one ahead of it. */
        static final int COMPARES = 0;
        static final int ADDS = 1;
        static final int MULTIPLIES = 2;
        static final int DEEPEST = 4;

        final int[] codes = new int[RULE_SIGNS];
        final int[] stack = new int[RULE_SIGNS];
        int length = 1;
        int p;
        /** Whether it looks at NOW: if not, a train that stays once stays for ever. */
        boolean usesNow;

        Rule() {
            codes[0] = THINGS;
        }

        void copyFrom(Rule other) {
            length = other.length;
            usesNow = other.usesNow;
            System.arraycopy(other.codes, 0, codes, 0, RULE_SIGNS);
        }

        /** VOTES; things are r c k d p n in turn. */
        int votesBy(int[] things) {
            int top = 0;
            for (int i = 0; i < length; i++) {
                int code = codes[i];
                if (code >= 0 && top < RULE_SIGNS) {
                    stack[top] = code < THINGS ? code : things[code - THINGS];
                    top++;
                } else if (code == NEGATE && top > 0) {
                    stack[top - 1] = -stack[top - 1];
                } else if (top > 1) {
                    top--;
                    stack[top - 1] = reckon(-code, stack[top - 1], stack[top]);
                }
            }
            return Math.max(0, Math.min(99, stack[0]));
        }

        static int reckon(int sign, int a, int b) {
            switch (sign) {
                case '+':
                    return a + b;
                case '-':
                    return a - b;
                case '*':
                    return a * b;
                case '/':
                    return b == 0 ? 0 : a / b;
                case '<':
                    return a < b ? 1 : 0;
                case '>':
                    return a > b ? 1 : 0;
                default:
                    return a == b ? 1 : 0;
            }
        }

        /** 0, or -1 - p if the sign at p can't stand there: then this rule is of no use. */
        int read(Text text) {
            text.boundBy(RULE_SIGNS);
            length = 0;
            p = 0;
            usesNow = false;
            if (text.length == 0) {
                add(THINGS);
                return 0;
            }
            boolean fits = readLevel(text, COMPARES, 0);
            return fits && text.length == p ? 0 : -1 - p;
        }

        void add(int code) {
            if (length < RULE_SIGNS) {
                codes[length] = code;
                length++;
            }
        }

        private boolean readLevel(Text text, int level, int depth) {
            if (level > MULTIPLIES) {
                return readSigned(text, depth);
            }
            if (!readLevel(text, level + 1, depth)) {
                return false;
            }
            int most = level == COMPARES ? 1 : RULE_SIGNS;
            for (int i = 0; i < most; i++) {
                int sign = text.at(p);
                if (levelOf(sign) != level) {
                    return true;
                }
                p++;
                if (!readLevel(text, level + 1, depth)) {
                    return false;
                }
                add(-sign);
            }
            return true;
        }

        static int levelOf(int sign) {
            switch (sign) {
                case '<':
                case '>':
                case '=':
                    return COMPARES;
                case '+':
                case '-':
                    return ADDS;
                case '*':
                case '/':
                    return MULTIPLIES;
                default:
                    return NONE;
            }
        }

        private boolean readSigned(Text text, int depth) {
            int minuses = 0;
            for (int i = 0; i < RULE_SIGNS && text.at(p) == '-'; i++) {
                minuses++;
                p++;
            }
            if (!readThing(text, depth)) {
                return false;
            }
            if (minuses % 2 == 1) {
                add(NEGATE);
            }
            return true;
        }

        private boolean readThing(Text text, int depth) {
            int sign = text.at(p);
            if (sign == '(' && depth < DEEPEST) {
                p++;
                if (!readLevel(text, COMPARES, depth + 1) || text.at(p) != ')') {
                    return false;
                }
                p++;
                return true;
            }
            int thing = thingOf(sign);
            if (thing == NONE) {
                return readNumber(text);
            }
            add(THINGS + thing);
            usesNow = usesNow || thing == NOW;
            p++;
            return true;
        }

        static int thingOf(int sign) {
            switch (sign) {
                case 'r':
                    return 0;
                case 'c':
                    return 1;
                case 'k':
                    return 2;
                case 'd':
                    return 3;
                case 'p':
                    return 4;
                case 'n':
                    return NOW;
                default:
                    return NONE;
            }
        }

        private boolean readNumber(Text text) {
            int value = 0;
            int digits = 0;
            for (int i = 0; i < 3 && text.digitAt(p) != NONE; i++) {
                value = 10 * value + text.digitAt(p);
                digits++;
                p++;
            }
            if (digits > 0) {
                add(value);
            }
            return digits > 0;
        }
    }

    /** What each wishes and how many votes there are for it; sums has three for each coach. */
    private static final class Voting {
        final int[] votes = new int[MOST_PASSENGERS];
        final int[] wishes = new int[MOST_PASSENGERS];
        final int[] sums = new int[3 * MOST_COACHES];
        final int[] all = new int[3];
        final int[] full = new int[MOST_COACHES];
        final int[] some = new int[3];
        final int[] things = new int[6];

        void hold(Net net, Train train, Riders riders, Rule rule) {
            clear(train, riders.number);
            for (int i = 0; i < riders.number; i++) {
                int coach = train.seats[i];
                votes[i] = 0;
                wishes[i] = NONE;
                if (coach != NONE) {
                    int halt = train.haltOf(coach);
                    int minutes = net.between(halt, riders.wants[i]);
                    things[0] = riders.ranks[i];
                    things[1] = coach;
                    things[2] = full[coach];
                    things[3] = minutes < FAR ? minutes : 99;
                    things[4] = train.places[coach] == NONE ? 9 : train.places[coach];
                    things[5] = train.now % 60;
                    votes[i] = rule.votesBy(things);
                    wishes[i] = net.wishAt(halt, riders.wants[i]);
                    sums[3 * coach + wishes[i]] += votes[i];
                    all[wishes[i]] += train.places[coach] == NONE ? 0 : votes[i];
                }
            }
        }

        void clear(Train train, int passengers) {
            for (int i = 0; i < 3 * MOST_COACHES; i++) {
                sums[i] = 0;
            }
            for (int coach = 0; coach < MOST_COACHES; coach++) {
                full[coach] = 0;
            }
            for (int wish = LEFT; wish <= STAY; wish++) {
                all[wish] = 0;
            }
            for (int i = 0; i < passengers; i++) {
                if (train.seats[i] != NONE) {
                    full[train.seats[i]]++;
                }
            }
        }

        static int choice(int left, int right, int stay) {
            if (left == 0 && right == 0) {
                return STAY;
            }
            if (left >= right && left >= stay) {
                return LEFT;
            }
            return right >= stay ? RIGHT : STAY;
        }

        int voteOf(int coach) {
            return choice(sums[3 * coach], sums[3 * coach + 1], sums[3 * coach + 2]);
        }

        int voteOfAll() {
            return choice(all[LEFT], all[RIGHT], all[STAY]);
        }

        int voteOfHeads(Train train) {
            clearSome();
            for (int place = 0; place < train.length; place++) {
                some[voteOf(train.order[place])]++;
            }
            return choice(some[LEFT], some[RIGHT], some[STAY]);
        }

        /** How many coaches go along. */
        int alongBy(Train train, int course) {
            for (int place = 0; place < train.length; place++) {
                if (voteOf(train.order[place]) != course) {
                    return place;
                }
            }
            return train.length;
        }

        void clearSome() {
            for (int wish = LEFT; wish <= STAY; wish++) {
                some[wish] = 0;
            }
        }

        int votesIn(int set) {
            int sum = 0;
            for (int i = 0; i < MOST_PASSENGERS && set >> i != 0; i++) {
                sum += (set >> i & 1) == 1 ? votes[i] : 0;
            }
            return sum;
        }

        /** Those with votes for something else; to win others would change nothing. */
        int othersThan(int wish) {
            int found = 0;
            for (int i = 0; i < MOST_PASSENGERS; i++) {
                if (wishes[i] != wish && votes[i] > 0) {
                    found |= 1 << i;
                }
            }
            return found;
        }

        boolean isTipping(int coach, int passenger) {
            int vote = voteOf(coach);
            for (int wish = LEFT; wish <= STAY; wish++) {
                if (voteIfWon(coach, 1 << passenger, wish) != vote) {
                    return true;
                }
            }
            return false;
        }

        /** A coach's vote, if these passengers of it were for a wish. */
        int voteIfWon(int coach, int set, int wish) {
            for (int i = LEFT; i <= STAY; i++) {
                some[i] = sums[3 * coach + i];
            }
            for (int i = 0; i < MOST_PASSENGERS && set >> i != 0; i++) {
                if ((set >> i & 1) == 1 && wishes[i] != NONE) {
                    some[wishes[i]] -= votes[i];
                    some[wish] += votes[i];
                }
            }
            return choice(some[LEFT], some[RIGHT], some[STAY]);
        }

        /** The vote, if these passengers alone had one. */
        int voteAmong(int set) {
            clearSome();
            for (int i = 0; i < MOST_PASSENGERS && set >> i != 0; i++) {
                if ((set >> i & 1) == 1 && wishes[i] != NONE) {
                    some[wishes[i]] += votes[i];
                }
            }
            return choice(some[LEFT], some[RIGHT], some[STAY]);
        }
    }

    /** Makes RUNS, and tells of the last one what was left, who got out, how long it took. */
    private static final class Runner {
        final Voting voting = new Voting();
        int left;
        int out;
        int minutes;

        int once(Net net, Train train, Riders riders, Rule rule, boolean byHeads) {
            left = 0;
            out = 0;
            minutes = 1;
            voting.hold(net, train, riders, rule);
            int course = byHeads ? voting.voteOfHeads(train) : voting.voteOfAll();
            if (course == STAY || net.to[2 * train.engine + course] == NONE) {
                train.now++;
                return STAY;
            }
            int exit = 2 * train.engine + course;
            minutes = net.minutes[exit];
            left = train.leave(voting.alongBy(train, course), net.to[exit], minutes);
            out = train.letOut(riders);
            return course;
        }

        /** Makes n RUNS, or fewer, if from then on nothing but NOW would change; tells NOW all the same. */
        void often(int n, Net net, Train train, Riders riders, Rule rule, boolean byHeads) {
            for (int i = 1; i <= n; i++) {
                int course = once(net, train, riders, rule, byHeads);
                if (course == STAY && !rule.usesNow) {
                    train.now += n - i;
                    return;
                }
            }
        }
    }

    /** Earlier states: those ahead of the latest acts, as a ring, and those that keep() kept. */
    private static final class Past {
        final Train[] acts = new Train[MOST_UNDONE];
        final Train[] kept = new Train[MOST_KEPT];
        final boolean[] isKept = new boolean[MOST_KEPT];
        int number;
        int next;

        Past() {
            for (int i = 0; i < MOST_UNDONE; i++) {
                acts[i] = new Train();
            }
            for (int i = 0; i < MOST_KEPT; i++) {
                kept[i] = new Train();
            }
        }

        void forgetActs() {
            number = 0;
        }

        void forgetAll() {
            forgetActs();
            for (int i = 0; i < MOST_KEPT; i++) {
                isKept[i] = false;
            }
        }

        void add(Train train) {
            acts[next].copyFrom(train);
            next = (next + 1) % MOST_UNDONE;
            number = Math.min(MOST_UNDONE, number + 1);
        }

        void back(Train train) {
            next = (next + MOST_UNDONE - 1) % MOST_UNDONE;
            number = Math.max(0, number - 1);
            train.copyFrom(acts[next]);
        }

        void keepUnder(int i, Train train) {
            kept[i].copyFrom(train);
            isKept[i] = true;
        }
    }

    /** Where a coach was seen or not, and which rows of exits fit. */
    private static final class Sightings {
        static final int STEPS = MOST_STEPS + 1;
        static final int ANYWHERE = (1 << MOST_HALTS) - 1;

        int number;
        int last;
        /** Halts (bits) where it may have been behind each step, by what was told of that step. */
        final int[] allowed = new int[STEPS];
        /** Halts (bits) to which fitting rows come behind each step. */
        final int[] reached = new int[STEPS];
        /** How many fitting rows go on from a halt behind a step. */
        final int[] ways = new int[STEPS * MOST_HALTS];

        Sightings() {
            for (int k = 0; k < STEPS; k++) {
                allowed[k] = ANYWHERE;
            }
        }

        void clear() {
            number = 0;
            last = 0;
            for (int k = 0; k < STEPS; k++) {
                allowed[k] = ANYWHERE;
            }
        }

        void add(int k, int halt, boolean is) {
            allowed[k] &= is ? 1 << halt : ~(1 << halt);
            last = Math.max(last, k);
            number++;
        }

        int waysFrom(int k, int halt) {
            return ways[k * MOST_HALTS + halt];
        }

        void trace(Net net, int start) {
            for (int k = last; k >= 0; k--) {
                for (int halt = 0; halt < net.halts; halt++) {
                    boolean mayBe = (allowed[k] >> halt & 1) == 1;
                    ways[k * MOST_HALTS + halt] = mayBe ? waysOn(net, k, halt) : 0;
                }
            }
            reached[0] = waysFrom(0, start) > 0 ? 1 << start : 0;
            for (int k = 1; k <= last; k++) {
                reached[k] = reachedFrom(net, k - 1);
            }
        }

        int waysOn(Net net, int k, int halt) {
            if (k >= last) {
                return 1;
            }
            int sum = 0;
            for (int exit = 2 * halt; exit < 2 * halt + 2; exit++) {
                sum += net.to[exit] == NONE ? 0 : waysFrom(k + 1, net.to[exit]);
            }
            return sum;
        }

        int reachedFrom(Net net, int k) {
            int found = 0;
            for (int exit = 0; exit < 2 * net.halts; exit++) {
                boolean wasThere = (reached[k] >> exit / 2 & 1) == 1;
                if (wasThere && net.to[exit] != NONE && waysFrom(k + 1, net.to[exit]) > 0) {
                    found |= 1 << net.to[exit];
                }
            }
            return found;
        }

        int haltsBehind(int k) {
            return reached[k];
        }

        void tellLeast(Net net, int start, Row row) {
            int halt = start;
            for (int k = 0; k < last; k++) {
                int left = net.to[2 * halt];
                boolean byLeft = left != NONE && waysFrom(k + 1, left) > 0;
                int next = byLeft ? left : net.to[2 * halt + 1];
                row.add(byLeft ? LEFT : RIGHT);
                halt = next == NONE ? halt : next;
            }
        }
    }

    /** The engine's way to all halts where coaches stand; the last of the points is where it is. */
    private static final class Tour {
        static final int POINTS = MOST_COACHES + 1;

        final int[] points = new int[POINTS];
        int goals;
        /** The fewest minutes from a point on, by the set of goals that are to be gone to. */
        final int[] fewest = new int[(1 << MOST_COACHES) * POINTS];

        void plan(Net net, Train train, int end) {
            goals = 0;
            for (int halt = 0; halt < net.halts; halt++) {
                if (train.standingAt(halt) != 0 && goals < MOST_COACHES) {
                    points[goals] = halt;
                    goals++;
                }
            }
            points[goals] = train.engine;
            for (int point = 0; point <= goals; point++) {
                fewest[point] = net.between(points[point], end);
            }
            for (int set = 1; set < 1 << goals; set++) {
                for (int point = 0; point <= goals; point++) {
                    fewest[set * POINTS + point] = fewestBy(net, set, point);
                }
            }
        }

        int fewestBy(Net net, int set, int point) {
            int least = FAR;
            for (int goal = 0; goal < goals; goal++) {
                if ((set >> goal & 1) == 1) {
                    least = Math.min(least, minutesBy(net, set, point, goal));
                }
            }
            return least;
        }

        int minutesBy(Net net, int set, int point, int goal) {
            return net.between(points[point], points[goal]) + fewest[(set & ~(1 << goal)) * POINTS + goal];
        }

        int minutesInAll() {
            return fewest[((1 << goals) - 1) * POINTS + goals];
        }

        /** Goals stand by their halts' numbers, so the first one that loses nothing is the least. */
        void tellOrder(Net net, Row row) {
            int set = (1 << goals) - 1;
            int point = goals;
            for (int i = 0; i < goals; i++) {
                int next = nextGoal(net, set, point);
                if (next != NONE) {
                    row.add(points[next]);
                    set &= ~(1 << next);
                    point = next;
                }
            }
        }

        int nextGoal(Net net, int set, int point) {
            for (int goal = 0; goal < goals; goal++) {
                boolean isOpen = (set >> goal & 1) == 1;
                if (isOpen && minutesBy(net, set, point, goal) == fewest[set * POINTS + point]) {
                    return goal;
                }
            }
            return NONE;
        }
    }
}
