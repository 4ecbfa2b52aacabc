import java.util.NoSuchElementException;

/**
 * Ballast, the elder son, down by the keel of his ship: he knows how grave his brothers are, what
 * they think and where they lie, and tells how she leans by it. The document's numbered promises
 * say what each call answers.
 */
public final class ElderBallast {
    public static final int NONE = -1;

    private static final int ABSENT = -2;
    private static final int MISSING = -3;
    private static final int FAULTLESS = -1;
    private static final int MOST_BROTHERS = 7;
    private static final int KINDS = 6;
    private static final int FARTHEST = 5;
    private static final int MOST_LEAN = 20;
    private static final int MOST_WEIGHT = 20;
    private static final int MOST_WIND = 9;
    private static final int MOST_SAIL = 9;
    private static final int MOST_GRAVITY = 9;
    private static final int OVER_FROM = 15;
    private static final int MOST_LEAGUES = 9999;
    private static final int MOST_OVERS = 999;
    private static final int MOST_HOURS = 60;
    private static final int FAR_AHEAD = 99;
    private static final int LAW_HOURS = 20;
    private static final int LAW_FAULT = -100000;
    private static final int WORTH_OF_STANDING = 9;
    private static final int COST_OF_BELOW = 2;
    /** The greatest v that may be heard of each what. */
    private static final int[] HEARD_MOST = {9, 5, 1, 5, 9};

    private final Text text = new Text();
    private final Row told = new Row();
    private final Sea sea = new Sea();
    private final Ship ship = new Ship();
    private final Ship guess = new Ship();
    private final Ship before = new Ship();
    private final Past past = new Past();
    private final Ship[] kept = {new Ship(), new Ship()};
    private final boolean[] holds = new boolean[2];
    private final Tales seen = new Tales(10);
    private final Tales rumours = new Tales(12);
    private final Luck luck = new Luck();
    private final Chances chances = new Chances();
    private final Pieces pieces = new Pieces();
    private final int[] loads = new int[MOST_BROTHERS];
    private final int[] draws = new int[KINDS];
    private final int[] pulls = new int[KINDS];
    private final int[] loadsIfTold = new int[MOST_BROTHERS * KINDS * MOST_BROTHERS];

    public ElderBallast() {
    }

    // ---- thoughts, brothers, winds

    public int sign(int v) {
        return text.takeFour(v) ? text.size : NONE;
    }

    public boolean end(int n) {
        return text.cut(n);
    }

    public int thoughts() {
        int fault = text.thoughtsFault();
        int answer = fault == FAULTLESS ? sea.takePrices(text) : -1 - fault;
        text.empty();
        return answer;
    }

    public int brothers() {
        int fault = text.brothersFault(ship.crew);
        int answer = fault == FAULTLESS ? ship.takeBrothers(text) : -1 - fault;
        text.empty();
        if (answer > 0) {
            past.empty();
        }
        return answer;
    }

    public int winds() {
        int fault = text.windsFault();
        int answer = fault == FAULTLESS ? sea.takeWinds(text) : -1 - fault;
        text.empty();
        return answer;
    }

    public int rule() {
        int fault = sea.spare.read(text);
        text.empty();
        if (fault != FAULTLESS) {
            return -1 - fault;
        }
        sea.changeRules();
        return 0;
    }

    public int brother(int brother, int what) throws NoSuchElementException {
        if (!ship.has(brother) || !within(what, 0, 3)) {
            throw new NoSuchElementException();
        }
        switch (what) {
            case 0:
                return ship.gravity[brother];
            case 1:
                return ship.thought[brother];
            case 2:
                return 10 + ship.place[brother];
            default:
                return sea.weight(ship, brother);
        }
    }

    public int price(int thought) throws NoSuchElementException {
        if (!within(thought, 0, KINDS - 1)) {
            throw new NoSuchElementException();
        }
        return sea.priceOf(thought);
    }

    public int sheet(int kind, int n, int f, int step) {
        if (!within(kind, 0, 3) || n > MOST_BROTHERS) {
            return NONE;
        }
        if (kind == 3) {
            ship.takeSheet(kind, 0, 0, 0);
            return MISSING;
        }
        if (n < 0) {
            return ABSENT;
        }
        ship.takeSheet(kind, n, f, step);
        return ship.gravityOfAll();
    }

    // ---- hours, tellings

    public int hours(int n) {
        if (!within(n, 0, MOST_HOURS)) {
            return NONE;
        }
        before.copy(ship);
        sea.begin();
        int overs = sea.letHoursGo(ship, n);
        if (n > 0) {
            past.add(before);
        }
        told.tell(ship.leagues - before.leagues, overs);
        return 100 + ship.lean;
    }

    public int tells(int brother, int thought) {
        before.copy(ship);
        return remembered(ship.tell(brother, thought));
    }

    public int moves(int brother, int place) {
        before.copy(ship);
        return remembered(ship.move(brother, place));
    }

    public int eases(int brother) {
        before.copy(ship);
        return remembered(ship.ease(brother));
    }

    public int preaches(int brother, int n) {
        before.copy(ship);
        return remembered(ship.preach(brother, n));
    }

    public int sails(int v) {
        before.copy(ship);
        return remembered(ship.setSail(v));
    }

    public int watch() {
        int fault = text.watchFault();
        if (fault != FAULTLESS) {
            text.empty();
            return -1 - fault;
        }
        before.copy(ship);
        int done = 0;
        boolean stopped = false;
        for (int p = 0; p < text.size && !stopped; p += Math.max(1, Text.formOfAct(text.at(p)).length())) {
            stopped = act(p) < 0;
            done += stopped ? 0 : 1;
        }
        text.empty();
        if (done > 0) {
            past.add(before);
        }
        told.tell(stopped ? 1 : 0, 100 + ship.lean);
        return done;
    }

    public int undo() {
        return past.takeLatest(ship) ? past.size : NONE;
    }

    /** Keeps how it was ahead of a call, if that call was done. */
    private int remembered(int answer) {
        if (answer >= 0) {
            past.add(before);
        }
        return answer;
    }

    /** Does the act that begins at p in a text that has no fault: below 0 if it can't be. */
    private int act(int p) {
        switch (text.at(p)) {
            case 'n':
                sea.begin();
                return sea.letHoursGo(ship, text.digit(p + 1));
            case 't':
                return ship.tell(text.digit(p + 1), text.digit(p + 2));
            case 'm':
                return ship.move(text.digit(p + 1), text.signed(p + 2));
            case 'e':
                return ship.ease(text.digit(p + 1));
            case 'p':
                return ship.preach(text.digit(p + 1), text.digit(p + 2));
            case 's':
                return ship.setSail(text.digit(p + 1));
            default:
                return NONE;
        }
    }

    // ---- how she lies

    public int moment() {
        weighAll();
        int starboard = 0;
        int larboard = 0;
        for (int b = 0; b < ship.crew; b++) {
            int turn = loads[b] * ship.place[b];
            starboard += Math.max(turn, 0);
            larboard += Math.max(-turn, 0);
        }
        int wind = sea.windAt(ship.hour);
        int ballast = starboard - larboard;
        told.tell(100 + pullOf(ballast, wind, ship.sail), starboard, larboard);
        return 1000 + ballast + 2 * wind * ship.sail;
    }

    public int later(int n) {
        if (!within(n, 0, FAR_AHEAD)) {
            return NONE;
        }
        lookAhead();
        sea.letHoursGo(guess, n);
        told.tell(guess.leagues - ship.leagues, guess.sail);
        return 100 + guess.lean;
    }

    public int over() {
        lookAhead();
        for (int n = 1; n <= FAR_AHEAD; n++) {
            if (sea.letHoursGo(guess, 1) > 0) {
                told.tell(100 + guess.lean);
                return n;
            }
        }
        return ABSENT;
    }

    public int when(int v) {
        if (!within(v, -MOST_LEAN, MOST_LEAN)) {
            return NONE;
        }
        lookAhead();
        int first = ABSENT;
        int times = 0;
        for (int n = 0; n <= FAR_AHEAD; n++) {
            if (guess.lean == v) {
                first = times == 0 ? n : first;
                times++;
            }
            sea.letHoursGo(guess, 1);
        }
        if (times > 0) {
            told.tell(times);
        }
        return first;
    }

    public int rolls(int n) {
        if (!within(n, 0, FAR_AHEAD)) {
            return NONE;
        }
        lookAhead();
        int most = guess.lean;
        int mostAt = 0;
        int least = guess.lean;
        int leastAt = 0;
        for (int i = 1; i <= n; i++) {
            sea.letHoursGo(guess, 1);
            if (guess.lean > most) {
                most = guess.lean;
                mostAt = i;
            }
            if (guess.lean < least) {
                least = guess.lean;
                leastAt = i;
            }
        }
        told.tell(mostAt, 100 + least, leastAt);
        return 100 + most;
    }

    public int steady(int n, int v) {
        if (!within(n, 1, FAR_AHEAD) || !within(v, 0, MOST_LEAN)) {
            return NONE;
        }
        lookAhead();
        int longest = 0;
        int from = 0;
        int run = 0;
        for (int i = 1; i <= n; i++) {
            sea.letHoursGo(guess, 1);
            run = Math.abs(guess.lean) <= v ? run + 1 : 0;
            if (run > longest) {
                longest = run;
                from = i - run + 1;
            }
        }
        told.tell(from);
        return longest;
    }

    public int makes(int v) {
        if (!within(v, 0, MOST_LEAGUES)) {
            return NONE;
        }
        lookAhead();
        for (int n = 0; n <= FAR_AHEAD; n++) {
            if (guess.leagues >= v) {
                told.tell(guess.leagues, guess.sail);
                return n;
            }
            sea.letHoursGo(guess, 1);
        }
        return ABSENT;
    }

    /** Makes ready to let hours go by on the guessed ship. */
    private void lookAhead() {
        guess.copy(ship);
        sea.begin();
    }

    // ---- so that she stands

    public int steps(int v) {
        if (!within(v, 0, MOST_LEAN)) {
            return NONE;
        }
        if (Math.abs(pullByBallast(sea.ballast(ship))) <= v) {
            told.empty();
            return 0;
        }
        guess.copy(ship);
        weighAllIfTold();
        if (oneStep(v)) {
            return 1;
        }
        return twoSteps(v) ? 2 : ABSENT;
    }

    public int best(int n) {
        if (!within(n, 1, MOST_HOURS)) {
            return NONE;
        }
        int most = -1;
        int chosen = 0;
        int asItIs = 0;
        sea.begin();
        for (int sail = 0; sail <= MOST_SAIL; sail++) {
            guess.copy(ship);
            guess.sail = sail;
            sea.letHoursGo(guess, n);
            int more = guess.leagues - ship.leagues;
            if (more > most) {
                most = more;
                chosen = sail;
            }
            asItIs = sail == ship.sail ? more : asItIs;
        }
        told.tell(most, asItIs);
        return chosen;
    }

    public int trims(int brother) {
        if (!ship.has(brother)) {
            return NONE;
        }
        guess.copy(ship);
        int chosen = 0;
        int least = MOST_LEAN + 1;
        for (int place = -FARTHEST; place <= FARTHEST; place++) {
            guess.place[brother] = place;
            int pull = pullByBallast(sea.ballast(guess));
            if (Math.abs(pull) < Math.abs(least)) {
                least = pull;
                chosen = place;
            }
        }
        told.tell(100 + least);
        return 10 + chosen;
    }

    public int frees() {
        if (ship.crew == 0) {
            return ABSENT;
        }
        weighAll();
        int ballast = ballastOfLoads();
        int chosen = 0;
        int least = MOST_LEAN + 1;
        for (int b = 0; b < ship.crew; b++) {
            int pull = pullByBallast(ballast - loads[b] * ship.place[b]);
            if (Math.abs(pull) < Math.abs(least)) {
                least = pull;
                chosen = b;
            }
        }
        told.tell(100 + least, 100 + pullByBallast(ballast));
        return chosen;
    }

    public int bears() {
        int ballast = sea.ballast(ship);
        int byGale = pullOf(ballast, MOST_WIND, ship.sail);
        for (int wind = MOST_WIND; wind >= 0; wind--) {
            int pull = pullOf(ballast, wind, ship.sail);
            if (pull < OVER_FROM) {
                told.tell(100 + pull, 100 + byGale);
                return wind;
            }
        }
        return ABSENT;
    }

    private int pullByBallast(int ballast) {
        return pullOf(ballast, sea.windAt(ship.hour), ship.sail);
    }

    /** Each brother by each thought and each number of others who have it: two tellings touch many. */
    private void weighAllIfTold() {
        for (int b = 0; b < ship.crew; b++) {
            for (int t = 0; t < KINDS; t++) {
                for (int k = 0; k < ship.crew; k++) {
                    loadsIfTold[(b * KINDS + t) * MOST_BROTHERS + k] = sea.weightAs(ship, b, t, k);
                }
            }
        }
    }

    private boolean guessStands(int v) {
        int ballast = 0;
        for (int b = 0; b < guess.crew; b++) {
            int at = (b * KINDS + guess.thought[b]) * MOST_BROTHERS + guess.othersLike(b);
            ballast += loadsIfTold[at] * guess.place[b];
        }
        return Math.abs(pullOf(ballast, sea.windAt(ship.hour), ship.sail)) <= v;
    }

    private boolean oneStep(int v) {
        for (int b = 0; b < guess.crew; b++) {
            int t = tellingThatStands(b, v);
            if (t != NONE) {
                told.tell(10 * b + t);
                return true;
            }
        }
        return false;
    }

    private boolean twoSteps(int v) {
        for (int b = 0; b < guess.crew; b++) {
            for (int t = 0; t < KINDS; t++) {
                guess.thought[b] = t;
                if (t != ship.thought[b] && secondStep(b, v)) {
                    return true;
                }
            }
            guess.thought[b] = ship.thought[b];
        }
        return false;
    }

    private boolean secondStep(int first, int v) {
        for (int b = first + 1; b < guess.crew; b++) {
            int t = tellingThatStands(b, v);
            if (t != NONE) {
                told.tell(10 * first + guess.thought[first], 10 * b + t);
                return true;
            }
        }
        return false;
    }

    /** The least other thought of a brother by which the guessed ship stands; he has his own after it. */
    private int tellingThatStands(int b, int v) {
        int found = NONE;
        for (int t = 0; t < KINDS && found == NONE; t++) {
            guess.thought[b] = t;
            if (t != ship.thought[b] && guessStands(v)) {
                found = t;
            }
        }
        guess.thought[b] = ship.thought[b];
        return found;
    }

    // ---- brothers by sides

    public int parties() {
        weighAll();
        int all = loadOf((1 << ship.crew) - 1);
        int least = all;
        int chosen = 0;
        for (int bits = 1; bits < 1 << ship.crew; bits++) {
            int difference = Math.abs(all - 2 * loadOf(bits));
            if (difference < least) {
                least = difference;
                chosen = bits;
            }
        }
        told.tell(chosen, loadOf(chosen));
        return least;
    }

    public int just(int v) {
        if (!within(v, 0, MOST_BROTHERS * MOST_WEIGHT)) {
            return NONE;
        }
        weighAll();
        int fewest = MOST_BROTHERS + 1;
        int chosen = 0;
        int sets = 0;
        for (int bits = 0; bits < 1 << ship.crew; bits++) {
            if (loadOf(bits) == v) {
                sets++;
                if (Integer.bitCount(bits) < fewest) {
                    fewest = Integer.bitCount(bits);
                    chosen = bits;
                }
            }
        }
        if (sets == 0) {
            return ABSENT;
        }
        told.tell(chosen, sets);
        return fewest;
    }

    public int swaps() {
        if (ship.crew < 2) {
            return ABSENT;
        }
        guess.copy(ship);
        int chosen = 0;
        int least = MOST_LEAN + 1;
        for (int a = 0; a < ship.crew; a++) {
            for (int b = a + 1; b < ship.crew; b++) {
                int pull = pullIfSwapped(a, b);
                if (Math.abs(pull) < Math.abs(least)) {
                    least = pull;
                    chosen = 10 * a + b;
                }
            }
        }
        told.tell(100 + least);
        return chosen;
    }

    public int line() {
        weighAll();
        told.empty();
        int placed = 0;
        for (int i = 0; i < ship.crew; i++) {
            int heaviest = heaviestBut(placed);
            placed |= 1 << heaviest;
            told.add(heaviest);
        }
        return ship.crew;
    }

    public int apart() {
        int most = 0;
        int chosen = 0;
        for (int bits = 1; bits < 1 << ship.crew; bits++) {
            if (Integer.bitCount(bits) > most && allDiffer(bits)) {
                most = Integer.bitCount(bits);
                chosen = bits;
            }
        }
        told.tell(chosen);
        return most;
    }

    private void weighAll() {
        for (int b = 0; b < ship.crew; b++) {
            loads[b] = sea.weight(ship, b);
        }
    }

    private int ballastOfLoads() {
        int sum = 0;
        for (int b = 0; b < ship.crew; b++) {
            sum += loads[b] * ship.place[b];
        }
        return sum;
    }

    private int loadOf(int bits) {
        int sum = 0;
        for (int b = 0; b < ship.crew; b++) {
            sum += hasBit(bits, b) ? loads[b] : 0;
        }
        return sum;
    }

    private int pullIfSwapped(int a, int b) {
        guess.place[a] = ship.place[b];
        guess.place[b] = ship.place[a];
        int pull = pullByBallast(sea.ballast(guess));
        guess.place[a] = ship.place[a];
        guess.place[b] = ship.place[b];
        return pull;
    }

    private int heaviestBut(int placed) {
        int heaviest = 0;
        int most = -1;
        for (int b = 0; b < ship.crew; b++) {
            if (!hasBit(placed, b) && loads[b] > most) {
                most = loads[b];
                heaviest = b;
            }
        }
        return heaviest;
    }

    private boolean allDiffer(int bits) {
        int thoughtBits = 0;
        int placeBits = 0;
        for (int b = 0; b < ship.crew; b++) {
            if (hasBit(bits, b)) {
                int at = ship.place[b] + FARTHEST;
                if (hasBit(thoughtBits, ship.thought[b]) || hasBit(placeBits, at)) {
                    return false;
                }
                thoughtBits |= 1 << ship.thought[b];
                placeBits |= 1 << at;
            }
        }
        return true;
    }

    // ---- what he thought

    public int saw(int w, int s, int v) {
        if (!within(w, -MOST_WIND, MOST_WIND) || !within(s, 0, MOST_SAIL) || !within(v, -MOST_LEAN, MOST_LEAN)) {
            return NONE;
        }
        return seen.add(w, s, v) ? seen.size : NONE;
    }

    public int denies() {
        return seen.empty();
    }

    public int minds(int brother) {
        if (!ship.has(brother)) {
            return NONE;
        }
        int bits = thoughtsLeft(brother);
        told.tell(Integer.bitCount(bits), hasBit(bits, ship.thought[brother]) ? 1 : 0);
        return bits;
    }

    public int looks(int brother) {
        if (!ship.has(brother)) {
            return NONE;
        }
        int bits = thoughtsLeft(brother);
        if (bits == 0) {
            return ABSENT;
        }
        int chosen = 0;
        int least = KINDS + 1;
        for (int wind = -MOST_WIND; wind <= MOST_WIND; wind++) {
            for (int sail = 0; sail <= MOST_SAIL; sail++) {
                int left = mostLeft(bits, wind, sail);
                if (left < least) {
                    least = left;
                    chosen = 10 * (MOST_WIND + wind) + sail;
                }
            }
        }
        told.tell(least);
        return chosen;
    }

    /** The thoughts of a brother by which all would be as it was seen; draws has the ballast by each. */
    private int thoughtsLeft(int brother) {
        guess.copy(ship);
        int bits = 0;
        for (int t = 0; t < KINDS; t++) {
            guess.thought[brother] = t;
            draws[t] = sea.ballast(guess);
            bits |= isAsSeen(draws[t]) ? 1 << t : 0;
        }
        return bits;
    }

    private boolean isAsSeen(int ballast) {
        for (int i = 0; i < seen.size; i++) {
            if (pullOf(ballast, seen.first[i], seen.second[i]) != seen.third[i]) {
                return false;
            }
        }
        return true;
    }

    /** How many of some thoughts are left at most behind a look by a wind and a sail. */
    private int mostLeft(int bits, int wind, int sail) {
        int most = 0;
        for (int t = 0; t < KINDS; t++) {
            pulls[t] = pullOf(draws[t], wind, sail);
            int alike = 0;
            for (int u = 0; u <= t; u++) {
                alike += hasBit(bits, u) && pulls[u] == pulls[t] ? 1 : 0;
            }
            most = hasBit(bits, t) ? Math.max(most, alike) : most;
        }
        return most;
    }

    // ---- who it was

    public int heard(int what, int v) {
        if (!within(what, 0, HEARD_MOST.length - 1) || !within(v, 0, HEARD_MOST[what])) {
            return NONE;
        }
        return rumours.add(what, v, 0) ? rumours.size : NONE;
    }

    public int forget() {
        return rumours.empty();
    }

    public int fits() {
        weighAll();
        int bits = suspects();
        told.tell(Integer.bitCount(bits));
        return bits;
    }

    public int asks() {
        weighAll();
        int bits = suspects();
        if (bits == 0) {
            return ABSENT;
        }
        int chosen = 0;
        int least = MOST_BROTHERS + 1;
        for (int what = 0; what < HEARD_MOST.length; what++) {
            for (int v = 0; v <= HEARD_MOST[what]; v++) {
                int left = leftBehind(bits, what, v);
                if (left < least) {
                    least = left;
                    chosen = 10 * what + v;
                }
            }
        }
        told.tell(least);
        return chosen;
    }

    /** The brothers who fit all that was heard; the loads are to be weighed ahead of it. */
    private int suspects() {
        int bits = 0;
        for (int b = 0; b < ship.crew; b++) {
            boolean fitting = true;
            for (int i = 0; i < rumours.size && fitting; i++) {
                fitting = isSo(b, rumours.first[i], rumours.second[i]);
            }
            bits |= fitting ? 1 << b : 0;
        }
        return bits;
    }

    private boolean isSo(int b, int what, int v) {
        switch (what) {
            case 0:
                return ship.gravity[b] >= v;
            case 1:
                return ship.thought[b] == v;
            case 2:
                return (ship.place[b] > 0) == (v == 1);
            case 3:
                return Math.abs(ship.place[b]) == v;
            default:
                return loads[b] >= v;
        }
    }

    private int leftBehind(int bits, int what, int v) {
        int yes = 0;
        for (int b = 0; b < ship.crew; b++) {
            yes += hasBit(bits, b) && isSo(b, what, v) ? 1 : 0;
        }
        return Math.max(yes, Integer.bitCount(bits) - yes);
    }

    // ---- chances, a cake

    public int grave(int n, int p) {
        if (!within(n, 0, 8) || !within(p, 0, 10)) {
            return NONE;
        }
        lookAhead();
        chances.start(guess.lean);
        int whole = 1;
        for (int i = 0; i < n; i++) {
            chances.letHourGo(sea, guess, p);
            whole *= 10;
        }
        int common = Math.max(1, greatestCommon(chances.over, whole));
        told.tell(chances.over / common, whole / common);
        return 0;
    }

    public int cake(int a, int b) {
        if (!within(a, 1, 3) || !within(b, 1, 7)) {
            return NONE;
        }
        return pieces.leastThatWins(a, b);
    }

    // ---- rests, rules, years

    public int rests(int v) {
        if (!within(v, 0, 18)) {
            return NONE;
        }
        told.empty();
        int pairs = 0;
        for (int x = 0; x <= MOST_GRAVITY; x++) {
            for (int y = 0; y <= MOST_GRAVITY; y++) {
                if (isContent(x, y, v) && isContent(y, x, v)) {
                    if (pairs == 0) {
                        told.tell(x, y);
                    }
                    pairs++;
                }
            }
        }
        return pairs;
    }

    public int law() {
        int fault = sea.spare.read(text);
        text.empty();
        if (fault != FAULTLESS) {
            return LAW_FAULT - fault;
        }
        lookAhead();
        sea.letHoursGo(guess, LAW_HOURS);
        int moreAsItIs = guess.leagues - ship.leagues;
        int leanAsItIs = guess.lean;
        sea.changeRules();
        lookAhead();
        sea.letHoursGo(guess, LAW_HOURS);
        sea.changeRules();
        int more = guess.leagues - ship.leagues;
        told.tell(more, moreAsItIs, 100 + guess.lean, 100 + leanAsItIs);
        return more - moreAsItIs;
    }

    public int years(int seed, int n) {
        if (!within(n, 1, MOST_HOURS)) {
            return NONE;
        }
        lookAhead();
        luck.start(seed);
        int overs = 0;
        for (int i = 0; i < n; i++) {
            overs += drawnYear();
        }
        told.tell(guess.leagues - ship.leagues, overs);
        return 100 + guess.lean;
    }

    /** Whether one would have no more by another gravity alone. */
    private static boolean isContent(int own, int other, int v) {
        int gain = gainOf(own, other, v);
        for (int x = 0; x <= MOST_GRAVITY; x++) {
            if (gainOf(x, other, v) > gain) {
                return false;
            }
        }
        return true;
    }

    private static int gainOf(int own, int other, int v) {
        return (own + other >= v ? WORTH_OF_STANDING : 0) - own - (own > other ? COST_OF_BELOW : 0);
    }

    /** What one draw tells, done on the guessed ship: how often she was over by it. */
    private int drawnYear() {
        int drawn = luck.draw(4);
        if (drawn < 2) {
            return sea.letHoursGo(guess, 1);
        }
        if (drawn == 2) {
            guess.sail = luck.draw(MOST_SAIL + 1);
        } else if (guess.crew > 0) {
            int b = luck.draw(guess.crew);
            guess.thought[b] = luck.draw(KINDS);
            sea.begin();
        }
        return 0;
    }

    // ---- kept

    public boolean keep(int i) {
        if (!within(i, 0, kept.length - 1)) {
            return false;
        }
        kept[i].copy(ship);
        holds[i] = true;
        return true;
    }

    public boolean again(int i) {
        if (!within(i, 0, kept.length - 1) || !holds[i] || kept[i].crew != ship.crew) {
            return false;
        }
        ship.copy(kept[i]);
        past.empty();
        return true;
    }

    public int count(int what) {
        switch (what) {
            case 0:
                return ship.crew;
            case 1:
                return ship.hour;
            case 2:
                return ship.sail;
            case 3:
                return 100 + ship.lean;
            case 4:
                return ship.leagues;
            case 5:
                return ship.overs;
            case 6:
                return 10 + sea.windAt(ship.hour);
            case 7:
                return ship.gravityOfAll();
            case 8:
                weighAll();
                return loadOf((1 << ship.crew) - 1);
            case 9:
                return seen.size;
            case 10:
                return rumours.size;
            case 11:
                return past.size;
            case 12:
                return told.size;
            case 13:
                return text.size;
            default:
                return NONE;
        }
    }

    public long row(int i) throws NoSuchElementException {
        if (!within(i, 0, told.size - 1)) {
            throw new NoSuchElementException();
        }
        return told.numbers[i];
    }

    // ---- numbers

    private static boolean within(int v, int least, int most) {
        return v >= least && v <= most;
    }

    private static int putTo(int v, int least, int most) {
        return v < least ? least : v > most ? most : v;
    }

    private static boolean hasBit(int bits, int i) {
        return (bits >> i & 1) == 1;
    }

    private static int pullOf(int ballast, int wind, int sail) {
        return putTo((ballast + 2 * wind * sail) / 8, -MOST_LEAN, MOST_LEAN);
    }

    /** Where a lean goes in one hour by a pull. */
    private static int leanBy(int lean, int pull) {
        int away = Math.abs(pull - lean);
        int step = away >= 6 ? 2 : Math.min(away, 1);
        return pull < lean ? lean - step : lean + step;
    }

    private static int greatestCommon(int a, int b) {
        int more = a;
        int less = b;
        for (int i = 0; i < 64 && less != 0; i++) {
            int rest = more % less;
            more = less;
            less = rest;
        }
        return more;
    }

    /** The numbers told last. */
    private static final class Row {
        private final long[] numbers = new long[8];
        private int size;

        void empty() {
            size = 0;
        }

        void add(int number) {
            if (size < numbers.length) {
                numbers[size] = number;
                size++;
            }
        }

        void tell(int a) {
            empty();
            add(a);
        }

        void tell(int a, int b) {
            empty();
            add(a);
            add(b);
        }

        void tell(int a, int b, int c) {
            empty();
            add(a);
            add(b);
            add(c);
        }

        void tell(int a, int b, int c, int d) {
            empty();
            add(a);
            add(b);
            add(c);
            add(d);
        }
    }

    /**
     * The text, and the forms that it may have. A form is a text, too: 9 stands for a digit, 5 for
     * one of 0 .. 5, 1 for one of 1 .. 9, + for + or -, others for themselves.
     */
    private static final class Text {
        private static final int NO_SIGN = -1;
        private static final int MOST_THOUGHTS = 6;
        private static final int MOST_LINES = 34;
        private static final int MOST_WINDS = 40;
        private static final int MOST_ACTS = 60;
        private static final String LINE_FORM = "95+5;";

        private final int[] signs = new int[80];
        private int size;

        boolean takeFour(int v) {
            if (size + 4 > signs.length) {
                return false;
            }
            for (int shift = 24; shift >= 0; shift -= 8) {
                signs[size] = v >> shift & 255;
                size++;
            }
            return true;
        }

        boolean cut(int n) {
            if (n < 0 || n > size) {
                return false;
            }
            size = n;
            return true;
        }

        void empty() {
            size = 0;
        }

        int at(int p) {
            return p >= 0 && p < size ? signs[p] : NO_SIGN;
        }

        int digit(int p) {
            return at(p) - '0';
        }

        /** The number told by a + or - and a digit from p on. */
        int signed(int p) {
            return at(p) == '-' ? -digit(p + 1) : digit(p + 1);
        }

        int thoughtsFault() {
            int fault = faultOf("9", MOST_THOUGHTS);
            return fault == FAULTLESS && size < MOST_THOUGHTS ? size : fault;
        }

        int brothersFault(int crew) {
            int room = (MOST_BROTHERS - crew) * LINE_FORM.length();
            int fault = faultOf(LINE_FORM, Math.min(room, MOST_LINES));
            boolean whole = size == 0 || size % LINE_FORM.length() == LINE_FORM.length() - 1;
            return fault == FAULTLESS && !whole ? size : fault;
        }

        int windsFault() {
            int fault = faultOf("+9", MOST_WINDS);
            return fault == FAULTLESS && (size == 0 || size % 2 == 1) ? size : fault;
        }

        int watchFault() {
            String form = "";
            int done = 0;
            for (int p = 0; p < size; p++) {
                if (done >= form.length()) {
                    form = formOfAct(signs[p]);
                    done = 0;
                }
                if (p == MOST_ACTS || done >= form.length() || !stands(form.charAt(done), signs[p])) {
                    return p;
                }
                done++;
            }
            return done < form.length() ? size : FAULTLESS;
        }

        /** An act's form by its first sign; an empty one, if none begins so. */
        static String formOfAct(int sign) {
            switch (sign) {
                case 'n':
                    return "n9";
                case 't':
                    return "t95";
                case 'm':
                    return "m9+5";
                case 'e':
                    return "e9";
                case 'p':
                    return "p91";
                case 's':
                    return "s9";
                default:
                    return "";
            }
        }

        /** The first sign that can't stand in a form that comes again and again, or behind so many. */
        private int faultOf(String form, int most) {
            int done = 0;
            for (int p = 0; p < size; p++) {
                if (p == most || done >= form.length() || !stands(form.charAt(done), signs[p])) {
                    return p;
                }
                done = done + 1 < form.length() ? done + 1 : 0;
            }
            return FAULTLESS;
        }

        private static boolean stands(char form, int sign) {
            switch (form) {
                case '9':
                    return within(sign, '0', '9');
                case '5':
                    return within(sign, '0', '5');
                case '1':
                    return within(sign, '1', '9');
                case '+':
                    return sign == '+' || sign == '-';
                default:
                    return sign == form;
            }
        }
    }

    /** All that undo brings back. */
    private static final class Ship {
        private final int[] gravity = new int[MOST_BROTHERS];
        private final int[] thought = new int[MOST_BROTHERS];
        private final int[] place = new int[MOST_BROTHERS];
        private int crew;
        private int sail = 5;
        private int lean;
        private int leagues;
        private int overs;
        private int hour;

        void copy(Ship other) {
            for (int b = 0; b < other.crew; b++) {
                gravity[b] = other.gravity[b];
                thought[b] = other.thought[b];
                place[b] = other.place[b];
            }
            crew = other.crew;
            sail = other.sail;
            lean = other.lean;
            leagues = other.leagues;
            overs = other.overs;
            hour = other.hour;
        }

        boolean has(int b) {
            return b >= 0 && b < crew;
        }

        /** Takes the lines of a text that has no fault: how many. */
        int takeBrothers(Text text) {
            int lines = 0;
            for (int p = 0; p < text.size && crew < MOST_BROTHERS; p += 5) {
                gravity[crew] = text.digit(p);
                thought[crew] = text.digit(p + 1);
                place[crew] = text.signed(p + 2);
                crew++;
                lines++;
            }
            return lines;
        }

        void takeSheet(int kind, int n, int f, int step) {
            int entry = f;
            for (int b = 0; b < crew; b++) {
                int cut = kind == 0 ? (byte) entry : kind == 1 ? (short) entry : entry;
                gravity[b] = b < n ? putTo(cut, 0, MOST_GRAVITY) : 0;
                entry += step;
            }
        }

        int gravityOfAll() {
            int sum = 0;
            for (int b = 0; b < crew; b++) {
                sum += gravity[b];
            }
            return sum;
        }

        /** How many others have a brother's thought. */
        int othersLike(int b) {
            int others = -1;
            for (int o = 0; o < crew; o++) {
                others += thought[o] == thought[b] ? 1 : 0;
            }
            return others;
        }

        int tell(int b, int to) {
            if (!has(b) || !within(to, 0, KINDS - 1)) {
                return NONE;
            }
            int had = thought[b];
            thought[b] = to;
            return had == to ? ABSENT : 10 + had;
        }

        int move(int b, int to) {
            if (!has(b) || !within(to, -FARTHEST, FARTHEST)) {
                return NONE;
            }
            int far = Math.abs(to - place[b]);
            place[b] = to;
            return far == 0 ? ABSENT : far;
        }

        int ease(int b) {
            if (!has(b)) {
                return NONE;
            }
            if (gravity[b] == 0) {
                return ABSENT;
            }
            gravity[b]--;
            return gravity[b];
        }

        int preach(int b, int n) {
            if (!has(b) || !within(n, 1, MOST_GRAVITY)) {
                return NONE;
            }
            if (gravity[b] == MOST_GRAVITY) {
                return ABSENT;
            }
            gravity[b] = Math.min(gravity[b] + n, MOST_GRAVITY);
            return gravity[b];
        }

        int setSail(int to) {
            if (!within(to, 0, MOST_SAIL)) {
                return NONE;
            }
            int was = sail;
            sail = to;
            return was == to ? ABSENT : 10 + was;
        }
    }

    /** How a weight is told: read once, kept with its operators behind what they join. */
    private static final class Rule {
        private static final String LETTERS = "gtkplin";
        private static final int MOST_SIGNS = 40;
        private static final int MOST_DEPTH = 4;
        private static final int OPERATOR = -100;
        /** No sign of a text is above 255. */
        private static final int MINUS_AHEAD = 256;

        private final int[] program = new int[MOST_SIGNS];
        private final int[] waiting = new int[MOST_SIGNS];
        private final int[] stack = new int[MOST_SIGNS];
        private final boolean[] compared = new boolean[MOST_DEPTH + 1];
        private int size;
        private int waits;
        private int depth;
        private int digits;
        private boolean wantsThing;
        private boolean seesLean;
        private boolean seesHour;

        Rule() {
            beThePlainOne();
        }

        /** Becomes what a text says: FAULTLESS, or its first sign that can't stand. */
        int read(Text text) {
            if (text.size == 0) {
                beThePlainOne();
                return FAULTLESS;
            }
            begin();
            for (int p = 0; p < text.size; p++) {
                boolean taken = p < MOST_SIGNS && (wantsThing ? takeThing(text.at(p)) : takeJoint(text.at(p)));
                if (!taken) {
                    return p;
                }
            }
            release(0);
            return wantsThing || depth > 0 ? text.size : FAULTLESS;
        }

        /** What it comes to, by the things that its letters stand for. */
        int valueBy(int[] things) {
            int top = 0;
            for (int i = 0; i < size; i++) {
                int code = program[i];
                int letter = -1 - code;
                int value = 0;
                if (code >= 0) {
                    value = code;
                } else if (letter < things.length) {
                    value = things[letter];
                } else if (code == OPERATOR - MINUS_AHEAD && top > 0) {
                    top--;
                    value = -stack[top];
                } else if (top > 1) {
                    top -= 2;
                    value = joined(OPERATOR - code, stack[top], stack[top + 1]);
                }
                if (top < stack.length) {
                    stack[top] = value;
                    top++;
                }
            }
            return top > 0 ? stack[top - 1] : 0;
        }

        private void begin() {
            size = 0;
            waits = 0;
            depth = 0;
            digits = 0;
            wantsThing = true;
            seesLean = false;
            seesHour = false;
            compared[0] = false;
        }

        private void beThePlainOne() {
            begin();
            takeThing('g');
            takeJoint('+');
            takeThing('t');
            release(0);
        }

        private boolean takeThing(int sign) {
            if (sign == '-') {
                hold(MINUS_AHEAD);
                return true;
            }
            if (sign == '(') {
                return open();
            }
            int letter = LETTERS.indexOf((char) sign);
            boolean isDigit = within(sign, '0', '9');
            if (letter < 0 && !isDigit) {
                return false;
            }
            emit(isDigit ? sign - '0' : -1 - letter);
            digits = isDigit ? 1 : 0;
            seesLean = seesLean || sign == 'l';
            seesHour = seesHour || sign == 'n';
            wantsThing = false;
            return true;
        }

        private boolean open() {
            if (depth >= MOST_DEPTH) {
                return false;
            }
            depth++;
            compared[depth] = false;
            hold('(');
            return true;
        }

        private boolean takeJoint(int sign) {
            if (within(sign, '0', '9')) {
                return lengthenNumber(sign - '0');
            }
            if (sign == ')') {
                return close();
            }
            int rank = rankOf(sign);
            if (rank == 0 || rank == 1 && compared[depth]) {
                return false;
            }
            compared[depth] = compared[depth] || rank == 1;
            release(rank);
            hold(sign);
            digits = 0;
            wantsThing = true;
            return true;
        }

        private boolean lengthenNumber(int digit) {
            if (digits == 0 || digits == 3 || size == 0) {
                return false;
            }
            program[size - 1] = program[size - 1] * 10 + digit;
            digits++;
            return true;
        }

        private boolean close() {
            if (depth == 0) {
                return false;
            }
            release(0);
            waits = Math.max(0, waits - 1);
            depth--;
            digits = 0;
            return true;
        }

        private void hold(int sign) {
            if (waits < waiting.length) {
                waiting[waits] = sign;
                waits++;
            }
        }

        private void emit(int code) {
            if (size < program.length) {
                program[size] = code;
                size++;
            }
        }

        /** Lets go those that wait and bind as a rank or more, up to the innermost ( . */
        private void release(int rank) {
            while (waits > 0 && waiting[waits - 1] != '(' && rankOf(waiting[waits - 1]) >= rank) {
                waits--;
                emit(OPERATOR - waiting[waits]);
            }
        }

        private static int rankOf(int sign) {
            switch (sign) {
                case '<':
                case '>':
                case '=':
                    return 1;
                case '+':
                case '-':
                    return 2;
                case '*':
                case '/':
                    return 3;
                case MINUS_AHEAD:
                    return 4;
                default:
                    return 0;
            }
        }

        private static int joined(int sign, int left, int right) {
            switch (sign) {
                case '<':
                    return left < right ? 1 : 0;
                case '>':
                    return left > right ? 1 : 0;
                case '=':
                    return left == right ? 1 : 0;
                case '+':
                    return left + right;
                case '-':
                    return left - right;
                case '*':
                    return left * right;
                default:
                    return right == 0 ? 0 : left / right;
            }
        }
    }

    /** What is around the ship: prices, winds, the rule, and how an hour goes by in these. */
    private static final class Sea {
        private static final int WEEK = 7;

        private final int[] prices = {0, 1, 3, 5, 7, 9};
        private final int[] winds = new int[20];
        private int pairs = 1;
        private Rule rule = new Rule();
        private Rule spare = new Rule();
        private final int[] things = new int[7];
        private final int[] ballasts = new int[(MOST_LEAN + 1) * WEEK];
        private final int[] stamps = new int[(MOST_LEAN + 1) * WEEK];
        private int stamp;

        int takePrices(Text text) {
            int sum = 0;
            for (int t = 0; t < KINDS; t++) {
                prices[t] = text.digit(t);
                sum += prices[t];
            }
            return sum;
        }

        int takeWinds(Text text) {
            pairs = 0;
            for (int p = 0; p < text.size && pairs < winds.length; p += 2) {
                winds[pairs] = text.signed(p);
                pairs++;
            }
            return pairs;
        }

        void changeRules() {
            Rule was = rule;
            rule = spare;
            spare = was;
        }

        int priceOf(int thought) {
            return thought >= 0 && thought < KINDS ? prices[thought] : 0;
        }

        int windAt(int hour) {
            int at = pairs > 0 ? hour % pairs : 0;
            return at >= 0 && at < winds.length ? winds[at] : 0;
        }

        int weight(Ship ship, int b) {
            return weightAs(ship, b, ship.thought[b], ship.othersLike(b));
        }

        /** A brother's weight, if he had a thought and so many others had it. */
        int weightAs(Ship ship, int b, int thought, int others) {
            things[0] = ship.gravity[b];
            things[1] = priceOf(thought);
            things[2] = others;
            things[3] = Math.abs(ship.place[b]);
            things[4] = Math.abs(ship.lean);
            things[5] = b;
            things[6] = ship.hour % WEEK;
            return putTo(rule.valueBy(things), 0, MOST_WEIGHT);
        }

        /** Weight times place of all. */
        int ballast(Ship ship) {
            begin();
            return ballastInHours(ship);
        }

        /** To be called when brothers, prices or the rule may be others than in hours let go before. */
        void begin() {
            stamp++;
        }

        /** The ballast, weighed anew only where the rule sees another lean or hour than since begin. */
        int ballastInHours(Ship ship) {
            int lean = rule.seesLean ? Math.abs(ship.lean) : 0;
            int day = rule.seesHour ? ship.hour % WEEK : 0;
            int at = putTo(lean * WEEK + day, 0, stamps.length - 1);
            if (stamps[at] != stamp) {
                int sum = 0;
                for (int b = 0; b < ship.crew; b++) {
                    sum += weightAs(ship, b, ship.thought[b], ship.othersLike(b)) * ship.place[b];
                }
                stamps[at] = stamp;
                ballasts[at] = sum;
            }
            return ballasts[at];
        }

        /** Lets hours go by on a ship: how often she was over in these. */
        int letHoursGo(Ship ship, int n) {
            int times = 0;
            for (int i = 0; i < n; i++) {
                int wind = windAt(ship.hour);
                ship.lean = leanBy(ship.lean, pullOf(ballastInHours(ship), wind, ship.sail));
                int made = Math.abs(wind * ship.sail) / 3 - Math.abs(ship.lean) / 2;
                ship.leagues = Math.min(ship.leagues + Math.max(made, 0), MOST_LEAGUES);
                if (Math.abs(ship.lean) >= OVER_FROM) {
                    ship.overs = Math.min(ship.overs + 1, MOST_OVERS);
                    ship.sail = 0;
                    times++;
                }
                ship.hour++;
            }
            return times;
        }
    }

    /** How it was ahead of the latest calls that can be undone. */
    private static final class Past {
        private static final int MOST = 12;

        private final Ship[] ships = new Ship[MOST];
        private int oldest;
        private int size;

        Past() {
            for (int i = 0; i < MOST; i++) {
                ships[i] = new Ship();
            }
        }

        void empty() {
            size = 0;
        }

        void add(Ship ship) {
            ships[(oldest + size) % MOST].copy(ship);
            if (size < MOST) {
                size++;
            } else {
                oldest = (oldest + 1) % MOST;
            }
        }

        boolean takeLatest(Ship into) {
            if (size == 0) {
                return false;
            }
            size--;
            into.copy(ships[(oldest + size) % MOST]);
            return true;
        }
    }

    /** Things that were seen or heard, by up to three numbers each. */
    private static final class Tales {
        private final int[] first;
        private final int[] second;
        private final int[] third;
        private int size;

        Tales(int most) {
            int room = Math.max(0, most);
            first = new int[room];
            second = new int[room];
            third = new int[room];
        }

        boolean add(int a, int b, int c) {
            if (size >= first.length) {
                return false;
            }
            first[size] = a;
            second[size] = b;
            third[size] = c;
            size++;
            return true;
        }

        int empty() {
            int had = size;
            size = 0;
            return had;
        }
    }

    /** Numbers drawn by a seed. */
    private static final class Luck {
        private int r;

        void start(int seed) {
            r = seed;
        }

        int draw(int n) {
            r = r * 1103515245 + 12345;
            return n > 0 ? (r >>> 16) % n : 0;
        }
    }

    /** In how many of 10 to the hours gone by she has each lean and was never over, or was over. */
    private static final class Chances {
        private static final int LEANS = 2 * MOST_LEAN + 1;

        private int[] ways = new int[LEANS];
        private int[] next = new int[LEANS];
        private int over;

        void start(int lean) {
            over = 0;
            for (int i = 0; i < LEANS; i++) {
                ways[i] = i == lean + MOST_LEAN ? 1 : 0;
                next[i] = 0;
            }
        }

        void letHourGo(Sea sea, Ship ship, int p) {
            over *= 10;
            for (int i = 0; i < LEANS; i++) {
                if (ways[i] > 0) {
                    ship.lean = i - MOST_LEAN;
                    int ballast = sea.ballastInHours(ship);
                    go(leanBy(ship.lean, pullOf(ballast, MOST_WIND, ship.sail)), ways[i] * p);
                    go(leanBy(ship.lean, pullOf(ballast, -MOST_WIND, ship.sail)), ways[i] * (10 - p));
                    ways[i] = 0;
                }
            }
            int[] emptied = ways;
            ways = next;
            next = emptied;
            ship.hour++;
        }

        private void go(int lean, int many) {
            int at = lean + MOST_LEAN;
            if (Math.abs(lean) >= OVER_FROM) {
                over += many;
            } else if (within(at, 0, LEANS - 1)) {
                next[at] += many;
            }
        }
    }

    /** The cake: what is left of it is told by the pieces left in its three rows. */
    private static final class Pieces {
        private static final int ROWS = 3;

        private final boolean[] wins = new boolean[8 * 8 * 8];
        private final int[] left = new int[ROWS];

        int leastThatWins(int rows, int columns) {
            for (int a = 0; a <= columns; a++) {
                for (int b = 0; b <= (rows > 1 ? a : 0); b++) {
                    for (int c = 0; c <= (rows > 2 ? b : 0); c++) {
                        leave(a, b, c);
                        // Nothing left: the other one has just taken the piece that loses.
                        setWins(a == 0 || winningPiece() != ABSENT);
                    }
                }
            }
            leave(columns, rows > 1 ? columns : 0, rows > 2 ? columns : 0);
            return winningPiece();
        }

        private void leave(int a, int b, int c) {
            left[0] = a;
            left[1] = b;
            left[2] = c;
        }

        private void setWins(boolean winning) {
            int at = indexBehind(ROWS, 0);
            if (within(at, 0, wins.length - 1)) {
                wins[at] = winning;
            }
        }

        /** The least piece that leaves the other one a cake by which he loses, or ABSENT. */
        private int winningPiece() {
            for (int row = 0; row < ROWS; row++) {
                for (int column = 0; column < left[row]; column++) {
                    int at = indexBehind(row, column);
                    if (within(at, 0, wins.length - 1) && !wins[at]) {
                        return 10 * row + column;
                    }
                }
            }
            return ABSENT;
        }

        /** The number of what is left behind a piece; of row ROWS: without one taken. */
        private int indexBehind(int row, int column) {
            int at = 0;
            for (int r = 0; r < ROWS; r++) {
                at = at * 8 + (r < row ? left[r] : Math.min(left[r], column));
            }
            return at;
        }
    }
}
