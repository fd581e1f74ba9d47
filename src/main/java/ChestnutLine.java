/**
 * Branch lines told as texts, the riders who pull the cord for chestnuts, and what comes of it.
 *
 * Every row that a call needs is made once, with the object, and used again: no call makes objects.
 */
public final class ChestnutLine {
    public static final int NONE = -1;

    private static final int ABSENT = -2;
    private static final int NO_GAIN = -1000000;

    private static final int MOST_BYTES = 600;
    private static final int FED_BYTES = 20;
    private static final int MOST_POSTS = 16;
    private static final int MOST_RIDERS = 6;
    private static final int RIDER_SETS = 1 << MOST_RIDERS;
    private static final int MOST_SEEN = 10;
    private static final int MOST_OF_A_SORT = 2;
    private static final int IMAGES = 3;
    private static final int WEEKS = 10;
    private static final int MOST_LIMIT = 999;
    private static final int MOST_SEEDS = 20;
    /* 15 STOPS of 9 (HALT), 6 (twice GRADE 3) and 60 (twice 30 MINUTES): more than COSTS can ever be. */
    private static final int MOST_COSTS = 15 * (9 + 6 + 60);

    private static final int SORT_LINE = 0;
    private static final int SORT_PLAN = 1;
    private static final int SORT_LOG = 2;

    private static final int FREE = 0;
    private static final int ONE = 1;
    private static final int LOTS = 2;
    private static final int FARES = 3;
    private static final int LAWS = 4;
    private static final int EVERYBODY = -1;

    private static final int AT_POST = 100;
    private static final int OF_RIDER = 200;
    private static final int WAIT_AT = 200;
    private static final int IN_WEEK = 10;

    private final State now = new State();
    private final State[] images = {new State(), new State(), new State()};
    private final boolean[] imageMade = new boolean[IMAGES];
    private final Reader reader = new Reader();
    private final Ride ride = new Ride();
    private final Meeting meeting = new Meeting();
    private final Spread spread = new Spread();
    private final Sets sets = new Sets();
    private final Purse bestPurse = new Purse();
    private final Line trial = new Line();
    private final int[] gains = new int[RIDER_SETS * MOST_RIDERS];

    public ChestnutLine() {
    }

    // ---- the tape and the texts ----

    public int feed(int a, int b, int c, int d, int e) {
        if (now.length + FED_BYTES > MOST_BYTES) {
            return NONE;
        }
        now.append(a);
        now.append(b);
        now.append(c);
        now.append(d);
        now.append(e);
        return now.length;
    }

    public int end(int n) {
        if (n < 0 || n > now.length) {
            return NONE;
        }
        now.length = n;
        return n;
    }

    public int text(int sort, int at) {
        int taken = now.length;
        int place = placeFor(sort, at);
        // The tape is taken and the FAULT is this call's, even where no text is read.
        now.length = 0;
        now.fault = 0;
        now.place = NONE;
        if (place == ABSENT) {
            return ABSENT;
        }
        reader.readTape(now.tape, taken, sort);
        now.fault = reader.fault;
        now.place = reader.place;
        if (reader.fault != 0) {
            return NONE;
        }
        now.put(sort, place, reader);
        return place;
    }

    public int fault(int what) {
        if (what == 0) {
            return now.fault;
        }
        return what == 1 ? now.place : NONE;
    }

    public int count(int sort) {
        return isSort(sort) ? now.howMany(sort) : ABSENT;
    }

    public boolean image(int k) {
        if (k < 0 || k >= IMAGES) {
            return false;
        }
        images[k].copyFrom(now);
        imageMade[k] = true;
        return true;
    }

    public boolean again(int k) {
        if (k < 0 || k >= IMAGES || !imageMade[k]) {
            return false;
        }
        now.copyFrom(images[k]);
        return true;
    }

    // ---- what the texts told ----

    public int line(int line, int what) {
        Line told = now.lineAt(line);
        if (told == null) {
            return ABSENT;
        }
        switch (what) {
            case 0: return told.posts;
            case 1: return told.riders;
            case 2: return told.halt;
            case 3: return told.eat;
            case 4: return told.grace;
            case 5: return told.bishop;
            case 6: return told.other;
            case 7: return told.stations();
            default: return ABSENT;
        }
    }

    public int post(int line, int post, int what) {
        Line told = now.lineAt(line);
        if (told == null || !told.hasPost(post)) {
            return ABSENT;
        }
        if (what >= IN_WEEK && what < IN_WEEK + WEEKS) {
            return told.poundsIn(post, what - IN_WEEK);
        }
        switch (what) {
            case 0: return told.minutes[post];
            case 1: return told.grade[post];
            case 2: return told.pounds[post];
            case 3: return told.odds[post];
            case 4: return told.printed[post];
            case 5: return post == told.posts - 1 ? NONE : told.cost(post);
            default: return ABSENT;
        }
    }

    public int rider(int line, int rider, int what) {
        Line told = now.lineAt(line);
        if (told == null || !told.hasRider(rider)) {
            return NONE;
        }
        switch (what) {
            case 0: return told.on[rider];
            case 1: return told.off[rider];
            case 2: return told.pocket[rider];
            case 3: return told.wish[rider];
            case 4: return told.patience[rider];
            case 5: return told.fare[rider];
            default: return NONE;
        }
    }

    public int pull(int plan, int k, int what) {
        return pairAnswer(now.planAt(plan), k, what);
    }

    public int seen(int log, int k, int what) {
        return pairAnswer(now.logAt(log), k, what);
    }

    // ---- runs ----

    public int run(int line, int law, int seed, int week, int what) {
        Line told = ridden(line, law, seed, week);
        if (told == null) {
            return ABSENT;
        }
        if (what >= AT_POST && what < AT_POST + told.posts) {
            return ride.arrival(told, what - AT_POST);
        }
        if (what >= OF_RIDER && what < OF_RIDER + told.riders) {
            return ride.kept[what - OF_RIDER];
        }
        switch (what) {
            case 0: return ride.arrival(told, told.posts - 1);
            case 1: return ride.gathered;
            case 2: return ride.stopCount;
            case 3: return ride.delay;
            case 4: return ride.stove;
            case 5: return ride.fines(told);
            case 6: return ride.bishopOut;
            case 7: return ride.stops;
            default: return ABSENT;
        }
    }

    public int who(int line, int law, int seed, int week, int post) {
        Line told = ridden(line, law, seed, week);
        return told == null || !told.hasPost(post) ? ABSENT : ride.puller[post];
    }

    public int late(int line, int law, int seed, int week, int post) {
        Line told = ridden(line, law, seed, week);
        if (told == null || !told.isStation(post)) {
            return NONE;
        }
        return ride.lateAt(told, post);
    }

    public int left(int line, int law, int seed, int week, int post) {
        Line told = ridden(line, law, seed, week);
        if (told == null) {
            return ABSENT;
        }
        if (post == NONE) {
            return ride.remainsInAll(told);
        }
        return told.hasPost(post) ? ride.remains[post] : ABSENT;
    }

    public int played(int line, int plan, int week, int what) {
        Line told = now.lineAt(line);
        Pairs pulls = now.planAt(plan);
        if (told == null || pulls == null || !isWeek(week)) {
            return ABSENT;
        }
        int stop = ride.byPlan(told, pulls, week);
        if (what >= OF_RIDER && what < OF_RIDER + told.riders) {
            return ride.kept[what - OF_RIDER];
        }
        switch (what) {
            case 0: return stop;
            case 1: return ride.gathered;
            case 2: return ride.delay;
            case 3: return ride.fines(told);
            case 4: return ride.stove;
            default: return ABSENT;
        }
    }

    public int most(int line, int seed, int week, boolean late) {
        Line told = now.lineAt(line);
        if (told == null || !isWeek(week)) {
            return NONE;
        }
        int best = NONE;
        int bestWorth = 0;
        for (int law = 0; law < LAWS; law++) {
            ride.byLaw(told, law, seed, week, EVERYBODY);
            int worth = late ? -ride.delay : ride.gathered;
            if (best == NONE || worth > bestWorth) {
                best = law;
                bestWorth = worth;
            }
        }
        return best;
    }

    public int weeks(int line, int law, int seed, boolean sum) {
        Line told = now.lineAt(line);
        if (told == null || law < 0 || law >= LAWS) {
            return NONE;
        }
        int best = 0;
        int bestPounds = NONE;
        int all = 0;
        for (int week = 0; week < WEEKS; week++) {
            ride.byLaw(told, law, seed, week, EVERYBODY);
            all += ride.gathered;
            if (ride.gathered > bestPounds) {
                best = week;
                bestPounds = ride.gathered;
            }
        }
        return sum ? all : best;
    }

    public int lots(int line, int week, int seed, int w, int what) {
        Line told = now.lineAt(line);
        if (told == null || !isWeek(week) || w < 1 || w > MOST_SEEDS || what < 0 || what > 2) {
            return NONE;
        }
        int pounds = 0;
        int delays = 0;
        int bishops = 0;
        for (int i = 0; i < w; i++) {
            ride.byLaw(told, LOTS, seed + i, week, EVERYBODY);
            pounds += ride.gathered;
            delays += ride.delay;
            bishops += ride.bishopOut == NONE ? 0 : 1;
        }
        if (what == 0) {
            return pounds;
        }
        return what == 1 ? delays : bishops;
    }

    // ---- the riders' interests ----

    public int rest(int line, int week, int k) {
        Line told = now.lineAt(line);
        if (told == null || !isWeek(week) || k < NONE) {
            return ABSENT;
        }
        fillGains(told, week);
        int found = 0;
        for (int set = 0; set < told.riderSets(); set++) {
            if (isAtRest(told, set)) {
                if (found == k) {
                    return set;
                }
                found++;
            }
        }
        return k == NONE ? found : ABSENT;
    }

    public int gain(int line, int week, int set, int rider) {
        Line told = now.lineAt(line);
        if (told == null || !isWeek(week) || !told.hasRider(rider)) {
            return NO_GAIN;
        }
        if (set < 0 || set >= told.riderSets()) {
            return NO_GAIN;
        }
        ride.byLaw(told, FREE, 0, week, set);
        return ride.gainOf(told, rider);
    }

    public int calm(int line, int week, int limit) {
        Line told = now.lineAt(line);
        if (told == null || !isWeek(week) || limit < NONE || limit > MOST_LIMIT) {
            return NONE;
        }
        int fewest = told.riders + 1;
        int best = NONE;
        for (int still = 0; still < told.riderSets(); still++) {
            if (Integer.bitCount(still) < fewest && isCalm(told, week, limit, still)) {
                fewest = Integer.bitCount(still);
                best = still;
            }
        }
        return best;
    }

    public int rich(int line, int law, int seed, int week, boolean spare) {
        Line told = ridden(line, law, seed, week);
        if (told == null) {
            return NONE;
        }
        return spare ? sparePost(told, law, seed, week) : ride.richest(told);
    }

    public int vote(int line, int seed, int week, boolean many) {
        Line told = now.lineAt(line);
        if (told == null || told.riders == 0 || !isWeek(week)) {
            return NONE;
        }
        fillGainsByLaw(told, seed, week);
        int best = 0;
        int bestVotes = NONE;
        for (int law = 0; law < LAWS; law++) {
            int votes = votesFor(told, law);
            if (votes > bestVotes) {
                best = law;
                bestVotes = votes;
            }
        }
        return many ? bestVotes : best;
    }

    public int bid(int line, int week, int rider, int what) {
        Line told = now.lineAt(line);
        if (told == null || !isWeek(week) || !told.hasRider(rider)) {
            return NONE;
        }
        trial.copyFrom(told);
        switch (what) {
            case 0: return bestChoice(week, rider, FARES, trial.fare, 0, 9);
            case 1: return bestChoice(week, rider, FREE, trial.pocket, 1, 60);
            case 2: return bestChoice(week, rider, FREE, trial.patience, 0, 200);
            default: return NONE;
        }
    }

    // ---- sets of posts ----

    public int purse(int line, int week, int limit, int what) {
        Line told = now.lineAt(line);
        if (told == null || !isWeek(week) || limit < 0 || limit > MOST_LIMIT) {
            return NONE;
        }
        if (what < 0 || what > 2) {
            return NONE;
        }
        bestPurse.fill(told, week, limit);
        int costs = bestPurse.bestCosts(limit);
        if (what == 0) {
            return bestPurse.pounds[costs];
        }
        return what == 1 ? bestPurse.posts[costs] : costs;
    }

    public int shells(int line, int week, int pounds, int minutes, int what) {
        Line told = now.lineAt(line);
        if (told == null || !isWeek(week) || what < 0 || what > 2) {
            return NONE;
        }
        sets.clear();
        for (int post = 0; post < told.posts - 1; post++) {
            int there = told.poundsIn(post, week);
            if (there > 0) {
                sets.add(post, there, told.cost(post));
            }
        }
        sets.find(pounds, minutes);
        if (what == 0) {
            return sets.found;
        }
        return what == 1 ? sets.surePosts() : sets.maybe;
    }

    public int hold(int line, int log, int what) {
        Line told = now.lineAt(line);
        Pairs logged = now.logAt(log);
        if (told == null || logged == null || what < 0 || what > 3) {
            return ABSENT;
        }
        sets.findHolding(told, logged);
        switch (what) {
            case 0: return sets.found;
            case 1: return sets.surePosts();
            case 2: return sets.maybe;
            default: return sets.found == 0 ? NONE : sets.first;
        }
    }

    // ---- odds ----

    public long chance(int line, int s, boolean under) {
        Line told = now.lineAt(line);
        if (told == null || s < NONE || s > MOST_LIMIT) {
            return NONE;
        }
        if (s == NONE) {
            return leastTerm(tenfoldMean(told), 10, under);
        }
        spread.overPosts(told, told.posts - 1);
        return leastTerm(spread.weightUpTo(s), spread.whole, under);
    }

    public int slack(int line, int q) {
        Line told = now.lineAt(line);
        if (told == null || !isHundredths(q)) {
            return NONE;
        }
        spread.overPosts(told, told.posts - 1);
        return spread.leastCosts(q);
    }

    public int print(int line, int post, int q) {
        Line told = now.lineAt(line);
        if (told == null || !told.isStation(post) || !isHundredths(q)) {
            return NONE;
        }
        if (q == 0) {
            // No likelihood is asked, so minute 0 will do, however far the STATION is.
            return 0;
        }
        spread.overPosts(told, post);
        return told.minutesTo(post) + spread.leastCosts(q);
    }

    // ---- the other train ----

    public int meet(int line, int law, int seed, int week, int what) {
        Line told = ridden(line, law, seed, week);
        if (told == null || told.other == NONE) {
            return ABSENT;
        }
        meeting.follow(told, ride.stops);
        if (what >= AT_POST && what < AT_POST + told.posts) {
            return meeting.arrivals[what - AT_POST];
        }
        if (what >= WAIT_AT && what < WAIT_AT + told.posts) {
            return meeting.waits[what - WAIT_AT];
        }
        switch (what) {
            case 0: return meeting.arrivals[told.posts - 1];
            case 1: return meeting.allWaits;
            case 2: return meeting.met;
            default: return ABSENT;
        }
    }

    public int risk(int line, int what) {
        Line told = now.lineAt(line);
        if (told == null || told.other == NONE || what < 0 || what > 1) {
            return NONE;
        }
        meeting.follow(told, 0);
        int waitsWithoutStops = meeting.allWaits;
        int risky = 0;
        int dragging = 0;
        for (int post = 0; post < told.posts - 1; post++) {
            meeting.follow(told, 1 << post);
            risky |= meeting.met == NONE ? 0 : 1 << post;
            dragging |= meeting.allWaits > waitsWithoutStops ? 1 << post : 0;
        }
        return what == 0 ? risky : dragging;
    }

    // ---- helpers of the calls ----

    private static boolean isSort(int sort) {
        return sort >= SORT_LINE && sort <= SORT_LOG;
    }

    private static boolean isWeek(int week) {
        return week >= 0 && week < WEEKS;
    }

    private static boolean isHundredths(int q) {
        return q >= 0 && q <= 100;
    }

    private int placeFor(int sort, int at) {
        if (!isSort(sort)) {
            return ABSENT;
        }
        int there = now.howMany(sort);
        if (at == NONE) {
            return there < MOST_OF_A_SORT ? there : ABSENT;
        }
        return at >= 0 && at < there ? at : ABSENT;
    }

    private static int pairAnswer(Pairs pairs, int k, int what) {
        if (pairs == null) {
            return ABSENT;
        }
        if (k == NONE) {
            return what == 0 ? pairs.size : ABSENT;
        }
        if (k < 0 || k >= pairs.size || what < 0 || what > 1) {
            return ABSENT;
        }
        return what == 0 ? pairs.first[k] : pairs.second[k];
    }

    /** The LINE whose RUN the ride then holds; null if there is no such RUN. */
    private Line ridden(int line, int law, int seed, int week) {
        Line told = now.lineAt(line);
        if (told == null || law < NONE || law >= LAWS || !isWeek(week)) {
            return null;
        }
        ride.byLaw(told, law, seed, week, EVERYBODY);
        return told;
    }

    private void fillGains(Line told, int week) {
        for (int set = 0; set < told.riderSets(); set++) {
            ride.byLaw(told, FREE, 0, week, set);
            keepGains(told, set);
        }
    }

    private void fillGainsByLaw(Line told, int seed, int week) {
        for (int law = 0; law < LAWS; law++) {
            ride.byLaw(told, law, seed, week, EVERYBODY);
            keepGains(told, law);
        }
    }

    private void keepGains(Line told, int row) {
        for (int rider = 0; rider < told.riders; rider++) {
            gains[row * MOST_RIDERS + rider] = ride.gainOf(told, rider);
        }
    }

    private boolean isAtRest(Line told, int set) {
        for (int rider = 0; rider < told.riders; rider++) {
            int changed = set ^ (1 << rider);
            if (gains[changed * MOST_RIDERS + rider] > gains[set * MOST_RIDERS + rider]) {
                return false;
            }
        }
        return true;
    }

    private int votesFor(Line told, int law) {
        int votes = 0;
        for (int rider = 0; rider < told.riders; rider++) {
            votes += lawOf(rider) == law ? 1 : 0;
        }
        return votes;
    }

    private int lawOf(int rider) {
        int best = 0;
        for (int law = 1; law < LAWS; law++) {
            if (gains[law * MOST_RIDERS + rider] > gains[best * MOST_RIDERS + rider]) {
                best = law;
            }
        }
        return best;
    }

    private boolean isCalm(Line told, int week, int limit, int still) {
        ride.byLaw(told, FREE, 0, week, ~still);
        return limit == NONE ? ride.bishopOut == NONE : ride.delay <= limit;
    }

    private int sparePost(Line told, int law, int seed, int week) {
        int best = NONE;
        int bestDelay = ride.delay;
        trial.copyFrom(told);
        for (int post = 0; post < told.posts; post++) {
            trial.pounds[post] = 0;
            ride.byLaw(trial, law, seed, week, EVERYBODY);
            trial.pounds[post] = told.pounds[post];
            if (ride.delay < bestDelay) {
                best = post;
                bestDelay = ride.delay;
            }
        }
        return best;
    }

    /** The least of the values low .. high, put into the trial's row, by which the RIDER KEEPS most. */
    private int bestChoice(int week, int rider, int law, int[] row, int low, int high) {
        int best = low;
        int bestKept = NONE;
        for (int value = low; value <= high; value++) {
            row[rider] = value;
            ride.byLaw(trial, law, 0, week, EVERYBODY);
            if (ride.kept[rider] > bestKept) {
                best = value;
                bestKept = ride.kept[rider];
            }
        }
        return best;
    }

    private static long tenfoldMean(Line told) {
        long sum = 0;
        for (int post = 0; post < told.posts - 1; post++) {
            sum += (long) told.odds[post] * told.cost(post);
        }
        return sum;
    }

    private static long leastTerm(long numerator, long denominator, boolean under) {
        long divisor = commonDivisor(numerator, denominator);
        long term = under ? denominator : numerator;
        return divisor == 0 ? term : term / divisor;
    }

    private static long commonDivisor(long a, long b) {
        long high = a;
        long low = b;
        // Numbers of 64 bits need fewer than 100 of Euclid's steps.
        for (int step = 0; step < 100 && low != 0; step++) {
            long remainder = high % low;
            high = low;
            low = remainder;
        }
        return high;
    }

    /** A branch line as its text tells it. */
    private static final class Line {
        final int[] minutes = new int[MOST_POSTS];
        final int[] grade = new int[MOST_POSTS];
        final int[] pounds = new int[MOST_POSTS];
        final int[] odds = new int[MOST_POSTS];
        final int[] printed = new int[MOST_POSTS];
        final int[] on = new int[MOST_RIDERS];
        final int[] off = new int[MOST_RIDERS];
        final int[] pocket = new int[MOST_RIDERS];
        final int[] wish = new int[MOST_RIDERS];
        final int[] patience = new int[MOST_RIDERS];
        final int[] fare = new int[MOST_RIDERS];
        int posts;
        int riders;
        int halt;
        int eat;
        int grace;
        int bishop;
        int other;

        void clear() {
            posts = 0;
            riders = 0;
            halt = 2;
            eat = 0;
            grace = 0;
            bishop = 0;
            other = NONE;
            for (int post = 0; post < MOST_POSTS; post++) {
                odds[post] = 0;
                printed[post] = NONE;
            }
        }

        void copyFrom(Line from) {
            System.arraycopy(from.minutes, 0, minutes, 0, MOST_POSTS);
            System.arraycopy(from.grade, 0, grade, 0, MOST_POSTS);
            System.arraycopy(from.pounds, 0, pounds, 0, MOST_POSTS);
            System.arraycopy(from.odds, 0, odds, 0, MOST_POSTS);
            System.arraycopy(from.printed, 0, printed, 0, MOST_POSTS);
            System.arraycopy(from.on, 0, on, 0, MOST_RIDERS);
            System.arraycopy(from.off, 0, off, 0, MOST_RIDERS);
            System.arraycopy(from.pocket, 0, pocket, 0, MOST_RIDERS);
            System.arraycopy(from.wish, 0, wish, 0, MOST_RIDERS);
            System.arraycopy(from.patience, 0, patience, 0, MOST_RIDERS);
            System.arraycopy(from.fare, 0, fare, 0, MOST_RIDERS);
            posts = from.posts;
            riders = from.riders;
            halt = from.halt;
            eat = from.eat;
            grace = from.grace;
            bishop = from.bishop;
            other = from.other;
        }

        boolean hasPost(int post) {
            return post >= 0 && post < posts;
        }

        boolean hasRider(int rider) {
            return rider >= 0 && rider < riders;
        }

        boolean isStation(int post) {
            return hasPost(post) && printed[post] != NONE;
        }

        boolean carries(int rider, int post) {
            return on[rider] <= post && post < off[rider];
        }

        int riderSets() {
            return 1 << riders;
        }

        int stations() {
            int bits = 0;
            for (int post = 0; post < posts; post++) {
                bits |= printed[post] == NONE ? 0 : 1 << post;
            }
            return bits;
        }

        /** The next STATION further on; NONE: there is none. */
        int stationBehind(int post) {
            for (int next = post + 1; next < posts; next++) {
                if (printed[next] != NONE) {
                    return next;
                }
            }
            return NONE;
        }

        int cost(int post) {
            int cost = halt + 2 * grade[post];
            if (grade[post] == 3 && post > 0) {
                cost += 2 * minutes[post - 1];
            }
            return cost;
        }

        int poundsIn(int post, int week) {
            return Math.max(0, pounds[post] - eat * week);
        }

        /** Minutes of the way from POST 0 without STOPS. */
        int minutesTo(int post) {
            int sum = 0;
            for (int before = 0; before < post; before++) {
                sum += minutes[before];
            }
            return sum;
        }

        /** COSTS of those of the STOPS (bits) that come before a POST. */
        int costsBefore(int post, int stops) {
            int sum = 0;
            for (int before = 0; before < post; before++) {
                if ((stops >> before & 1) != 0) {
                    sum += cost(before);
                }
            }
            return sum;
        }
    }

    /** Pairs of numbers: the PULLS of a PLAN, or what a LOG has SEEN. */
    private static final class Pairs {
        final int[] first = new int[MOST_POSTS];
        final int[] second = new int[MOST_POSTS];
        int size;

        void copyFrom(Pairs from) {
            System.arraycopy(from.first, 0, first, 0, MOST_POSTS);
            System.arraycopy(from.second, 0, second, 0, MOST_POSTS);
            size = from.size;
        }

        void add(int a, int b) {
            if (size < MOST_POSTS) {
                first[size] = a;
                second[size] = b;
                size++;
            }
        }
    }

    /** All that is told: what an image keeps. */
    private static final class State {
        final byte[] tape = new byte[MOST_BYTES];
        final Line[] lines = {new Line(), new Line()};
        final Pairs[] plans = {new Pairs(), new Pairs()};
        final Pairs[] logs = {new Pairs(), new Pairs()};
        final int[] counts = new int[SORT_LOG + 1];
        int length;
        int fault;
        int place = NONE;

        void copyFrom(State from) {
            System.arraycopy(from.tape, 0, tape, 0, MOST_BYTES);
            for (int i = 0; i < MOST_OF_A_SORT; i++) {
                lines[i].copyFrom(from.lines[i]);
                plans[i].copyFrom(from.plans[i]);
                logs[i].copyFrom(from.logs[i]);
            }
            System.arraycopy(from.counts, 0, counts, 0, SORT_LOG + 1);
            length = from.length;
            fault = from.fault;
            place = from.place;
        }

        void append(int word) {
            for (int shift = 24; shift >= 0 && length < MOST_BYTES; shift -= 8) {
                tape[length] = (byte) (word >>> shift);
                length++;
            }
        }

        int howMany(int sort) {
            return isSort(sort) ? counts[sort] : 0;
        }

        private boolean has(int sort, int i) {
            return i >= 0 && i < counts[sort] && i < MOST_OF_A_SORT;
        }

        Line lineAt(int i) {
            return has(SORT_LINE, i) ? lines[i] : null;
        }

        Pairs planAt(int i) {
            return has(SORT_PLAN, i) ? plans[i] : null;
        }

        Pairs logAt(int i) {
            return has(SORT_LOG, i) ? logs[i] : null;
        }

        /** What the reader has read, in a place that is there or the next further one. */
        void put(int sort, int i, Reader read) {
            if (!isSort(sort) || i < 0 || i >= MOST_OF_A_SORT) {
                return;
            }
            if (sort == SORT_LINE) {
                lines[i].copyFrom(read.line);
            } else if (sort == SORT_PLAN) {
                plans[i].copyFrom(read.pairs);
            } else {
                logs[i].copyFrom(read.pairs);
            }
            counts[sort] = Math.max(counts[sort], i + 1);
        }
    }

    /** Reads a tape as the text of one sort, into drafts of its own. */
    private static final class Reader {
        private static final int TOKEN_END = 0;
        private static final int TOKEN_WORD = 1;
        private static final int TOKEN_NUMBER = 2;
        private static final int TOKEN_MARK = 3;
        private static final int TOKEN_WRONG = 4;

        private static final int WORD_POST = 0;
        private static final int WORD_RIDER = 1;
        private static final int WORD_STATION = 2;
        private static final int WORD_ODDS = 3;
        private static final int WORD_HALT = 4;
        private static final int WORD_EAT = 5;
        private static final int WORD_GRACE = 6;
        private static final int WORD_BISHOP = 7;
        private static final int WORD_OTHER = 8;
        private static final int WORD_PULL = 9;
        private static final int WORD_SEEN = 10;

        private static final int MOST_DIGITS = 3;
        private static final int MOST_NUMBERS = 6;

        final Line line = new Line();
        final Pairs pairs = new Pairs();
        private final int[] numbers = new int[MOST_NUMBERS];
        private final int[] places = new int[MOST_NUMBERS];
        private final byte[] tape = new byte[MOST_BYTES];
        private int length;
        private int at;
        private int kind;
        private int start;
        private int value;
        private int highestPost;
        int fault;
        int place;

        void readTape(byte[] from, int bytes, int sort) {
            length = Math.max(0, Math.min(bytes, Math.min(from.length, MOST_BYTES)));
            System.arraycopy(from, 0, tape, 0, length);
            at = 0;
            fault = 0;
            place = NONE;
            highestPost = NONE;
            line.clear();
            pairs.size = 0;
            readRows(sort);
            if (sort == SORT_LINE && (line.posts < 2 || highestPost >= line.posts)) {
                note(4, length);
            }
        }

        private void readRows(int sort) {
            for (int row = 0; row <= MOST_BYTES; row++) {
                nextToken();
                if (kind == TOKEN_END) {
                    return;
                }
                int wordPlace = start;
                int word = kind == TOKEN_WORD ? wordOf(sort) : NONE;
                if (word == NONE || !readNumbers(word)) {
                    // This FAULT goes before any other one, wherever that is.
                    fault = 1;
                    place = start;
                    return;
                }
                tell(word, wordPlace);
            }
        }

        private void nextToken() {
            while (at < length && (tape[at] == ' ' || tape[at] == '\n')) {
                at++;
            }
            start = at;
            if (at >= length) {
                kind = TOKEN_END;
            } else if (isLetter(at)) {
                kind = TOKEN_WORD;
                while (at < length && isLetter(at)) {
                    at++;
                }
            } else if (isDigit(at)) {
                takeDigits();
            } else {
                kind = tape[at] == ';' ? TOKEN_MARK : TOKEN_WRONG;
                at++;
            }
        }

        private void takeDigits() {
            value = 0;
            while (at < length && isDigit(at)) {
                value = value * 10 + (tape[at] - '0');
                at++;
            }
            kind = at - start <= MOST_DIGITS ? TOKEN_NUMBER : TOKEN_WRONG;
        }

        private boolean isLetter(int i) {
            return tape[i] >= 'a' && tape[i] <= 'z';
        }

        private boolean isDigit(int i) {
            return tape[i] >= '0' && tape[i] <= '9';
        }

        private int wordOf(int sort) {
            if (sort == SORT_PLAN) {
                return isWord("pull") ? WORD_PULL : NONE;
            }
            if (sort == SORT_LOG) {
                return isWord("seen") ? WORD_SEEN : NONE;
            }
            return lineWord();
        }

        private int lineWord() {
            if (isWord("post")) {
                return WORD_POST;
            } else if (isWord("rider")) {
                return WORD_RIDER;
            } else if (isWord("station")) {
                return WORD_STATION;
            } else if (isWord("odds")) {
                return WORD_ODDS;
            } else if (isWord("halt")) {
                return WORD_HALT;
            } else if (isWord("eat")) {
                return WORD_EAT;
            } else if (isWord("grace")) {
                return WORD_GRACE;
            } else if (isWord("bishop")) {
                return WORD_BISHOP;
            }
            return isWord("other") ? WORD_OTHER : NONE;
        }

        private boolean isWord(String word) {
            if (at - start != word.length()) {
                return false;
            }
            for (int i = 0; i < word.length() && start + i < length; i++) {
                if (tape[start + i] != word.charAt(i)) {
                    return false;
                }
            }
            return true;
        }

        private static int howManyNumbers(int word) {
            switch (word) {
                case WORD_POST: return 3;
                case WORD_RIDER: return 6;
                case WORD_STATION:
                case WORD_ODDS:
                case WORD_PULL:
                case WORD_SEEN: return 2;
                default: return 1;
            }
        }

        /** The NUMBERS behind a word and the mark that ends them; false: the token read last is none of these. */
        private boolean readNumbers(int word) {
            int many = howManyNumbers(word);
            for (int i = 0; i < many && i < MOST_NUMBERS; i++) {
                nextToken();
                if (kind != TOKEN_NUMBER) {
                    return false;
                }
                numbers[i] = value;
                places[i] = start;
            }
            nextToken();
            return kind == TOKEN_MARK;
        }

        private void tell(int word, int wordPlace) {
            switch (word) {
                case WORD_POST: tellPost(wordPlace); break;
                case WORD_RIDER: tellRider(wordPlace); break;
                case WORD_STATION: tellOfPost(line.printed, MOST_LIMIT); break;
                case WORD_ODDS: tellOfPost(line.odds, 10); break;
                case WORD_HALT: line.halt = number(0, 1, 9); break;
                case WORD_EAT: line.eat = number(0, 0, 9); break;
                case WORD_GRACE: line.grace = number(0, 0, 60); break;
                case WORD_BISHOP: line.bishop = number(0, 0, 9); break;
                case WORD_OTHER: line.other = number(0, 0, MOST_LIMIT); break;
                case WORD_PULL: tellPair(wordPlace, MOST_POSTS, MOST_RIDERS - 1); break;
                default: tellPair(wordPlace, MOST_SEEN, MOST_LIMIT); break;
            }
        }

        private void tellPost(int wordPlace) {
            if (line.posts >= MOST_POSTS) {
                note(3, wordPlace);
                return;
            }
            int post = line.posts;
            line.minutes[post] = number(0, 1, 30);
            line.grade[post] = number(1, 0, 3);
            line.pounds[post] = number(2, 0, 30);
            line.posts++;
        }

        private void tellRider(int wordPlace) {
            if (line.riders >= MOST_RIDERS) {
                note(3, wordPlace);
                return;
            }
            int rider = line.riders;
            line.on[rider] = number(0, 0, MOST_POSTS - 1);
            line.off[rider] = number(1, line.on[rider] + 1, MOST_POSTS - 1);
            highestPost = Math.max(highestPost, line.off[rider]);
            line.pocket[rider] = number(2, 1, 60);
            line.wish[rider] = number(3, 1, 30);
            line.patience[rider] = number(4, 0, 200);
            line.fare[rider] = number(5, 0, 9);
            line.riders++;
        }

        private void tellOfPost(int[] row, int high) {
            int post = number(0, 0, MOST_POSTS - 1);
            int told = number(1, 0, high);
            highestPost = Math.max(highestPost, post);
            if (post >= 0 && post < row.length) {
                row[post] = told;
            }
        }

        private void tellPair(int wordPlace, int most, int high) {
            if (pairs.size >= most) {
                note(3, wordPlace);
                return;
            }
            int post = number(0, 0, MOST_POSTS - 1);
            pairs.add(post, number(1, 0, high));
        }

        private int number(int i, int low, int high) {
            if (i < 0 || i >= MOST_NUMBERS) {
                return NONE;
            }
            if (numbers[i] < low || numbers[i] > high) {
                note(2, places[i]);
            }
            return numbers[i];
        }

        /** Rows come by place, so the first FAULT that is noted is the first by place. */
        private void note(int newFault, int newPlace) {
            if (fault == 0) {
                fault = newFault;
                place = newPlace;
            }
        }
    }

    /** One RUN, by a LAW or by a PLAN, and what came of it. */
    private static final class Ride {
        final int[] puller = new int[MOST_POSTS];
        final int[] remains = new int[MOST_POSTS];
        final int[] kept = new int[MOST_RIDERS];
        private final int[] room = new int[MOST_RIDERS];
        private int pulledBefore;
        private int drawn;
        int stops;
        int stopCount;
        int delay;
        int gathered;
        int stove;
        int bishopOut;

        /** Of the RIDERS just the pullers (bits) ever pull. */
        void byLaw(Line line, int law, int seed, int week, int pullers) {
            begin(line, week);
            drawn = seed;
            if (law == NONE) {
                return;
            }
            for (int post = 0; post < line.posts - 1; post++) {
                int rider = chosen(line, law, wantingAt(line, post) & pullers);
                if (rider != NONE) {
                    stopAt(line, post, rider);
                }
            }
        }

        /** How many PULLS were done: the first that can't be, or all. */
        int byPlan(Line line, Pairs plan, int week) {
            begin(line, week);
            int postBefore = NONE;
            for (int k = 0; k < plan.size; k++) {
                int post = plan.first[k];
                int rider = plan.second[k];
                if (post <= postBefore || !canPull(line, post, rider)) {
                    return k;
                }
                stopAt(line, post, rider);
                postBefore = post;
            }
            return plan.size;
        }

        private void begin(Line line, int week) {
            for (int post = 0; post < line.posts; post++) {
                puller[post] = NONE;
                remains[post] = line.poundsIn(post, week);
            }
            for (int rider = 0; rider < line.riders; rider++) {
                room[rider] = line.pocket[rider];
                kept[rider] = 0;
            }
            pulledBefore = 0;
            stops = 0;
            stopCount = 0;
            delay = 0;
            gathered = 0;
            stove = 0;
            bishopOut = NONE;
        }

        private boolean canPull(Line line, int post, int rider) {
            return post >= 0 && post < line.posts - 1 && line.hasRider(rider)
                && line.carries(rider, post) && room[rider] > 0 && remains[post] > 0;
        }

        private int wantingAt(Line line, int post) {
            int delayThen = delay + line.cost(post);
            int wanting = 0;
            for (int rider = 0; rider < line.riders; rider++) {
                if (canPull(line, post, rider) && line.wish[rider] <= remains[post]
                    && line.patience[rider] >= delayThen) {
                    wanting |= 1 << rider;
                }
            }
            return wanting;
        }

        private int chosen(Line line, int law, int wanting) {
            if (wanting == 0) {
                return NONE;
            }
            switch (law) {
                case FREE: return leastOf(wanting);
                case ONE: return leastOf(wanting & ~pulledBefore);
                case LOTS: return nthOf(wanting, drawBelow(Integer.bitCount(wanting)));
                case FARES: return highestFare(line, wanting);
                default: return NONE;
            }
        }

        private static int leastOf(int riders) {
            return nthOf(riders, 0);
        }

        private static int nthOf(int riders, int n) {
            int before = 0;
            for (int rider = 0; rider < MOST_RIDERS; rider++) {
                if ((riders >> rider & 1) != 0) {
                    if (before == n) {
                        return rider;
                    }
                    before++;
                }
            }
            return NONE;
        }

        private static int highestFare(Line line, int riders) {
            int best = NONE;
            for (int rider = 0; rider < line.riders; rider++) {
                boolean among = (riders >> rider & 1) != 0;
                if (among && (best == NONE || line.fare[rider] > line.fare[best])) {
                    best = rider;
                }
            }
            return best;
        }

        private int drawBelow(int n) {
            drawn = drawn * 1103515245 + 12345;
            return n <= 0 ? 0 : (drawn >>> 16) % n;
        }

        private void stopAt(Line line, int post, int rider) {
            int taken = Math.min(remains[post], room[rider]);
            int cut = taken / 3;
            remains[post] -= taken;
            room[rider] -= taken;
            kept[rider] += taken - cut;
            gathered += taken;
            stove += cut;
            delay += line.cost(post);
            puller[post] = rider;
            pulledBefore |= 1 << rider;
            stops |= 1 << post;
            stopCount++;
            if (stopCount == line.bishop) {
                bishopOut = post;
            }
        }

        int arrival(Line line, int post) {
            return line.minutesTo(post) + line.costsBefore(post, stops);
        }

        int lateAt(Line line, int post) {
            return Math.max(0, arrival(line, post) - line.printed[post]);
        }

        int fines(Line line) {
            int sum = 0;
            for (int post = 0; post < line.posts; post++) {
                if (line.isStation(post)) {
                    sum += Math.max(0, lateAt(line, post) - line.grace);
                }
            }
            return sum;
        }

        int gainOf(Line line, int rider) {
            return 10 * kept[rider] - line.costsBefore(line.off[rider], stops);
        }

        /** The RIDER who KEEPS most; NONE: nobody KEEPS anything. */
        int richest(Line line) {
            int best = NONE;
            int most = 0;
            for (int rider = 0; rider < line.riders; rider++) {
                if (kept[rider] > most) {
                    best = rider;
                    most = kept[rider];
                }
            }
            return best;
        }

        int remainsInAll(Line line) {
            int sum = 0;
            for (int post = 0; post < line.posts; post++) {
                sum += remains[post];
            }
            return sum;
        }
    }

    /** Our train, with given STOPS, against the OTHER one. */
    private static final class Meeting {
        final int[] arrivals = new int[MOST_POSTS];
        final int[] waits = new int[MOST_POSTS];
        int allWaits;
        int met;

        void follow(Line line, int stops) {
            int minute = 0;
            int otherHere = line.other + line.minutesTo(line.posts - 1);
            allWaits = 0;
            met = NONE;
            for (int post = 0; post < line.posts; post++) {
                int ready = minute + ((stops >> post & 1) != 0 ? line.cost(post) : 0);
                arrivals[post] = minute;
                waits[post] = waitAt(line, post, ready, otherHere);
                allWaits += waits[post];
                int leaves = ready + waits[post];
                minute = leaves + line.minutes[post];
                int otherAtNext = otherHere - line.minutes[post];
                if (met == NONE && post < line.posts - 1 && leaves < otherHere && otherAtNext < minute) {
                    met = post;
                }
                otherHere = otherAtNext;
            }
        }

        private static int waitAt(Line line, int post, int ready, int otherHere) {
            int next = line.isStation(post) ? line.stationBehind(post) : NONE;
            if (next == NONE) {
                return 0;
            }
            int way = line.minutesTo(next) - line.minutesTo(post);
            return otherHere > ready && otherHere - way < ready + way ? otherHere - ready : 0;
        }
    }

    /** How likely which COSTS are, in parts of a whole, each POST being a STOP by its ODDS. */
    private static final class Spread {
        private final long[] weights = new long[MOST_COSTS + 1];
        private int top;
        long whole;

        /** Of the POSTS before a given one. */
        void overPosts(Line line, int posts) {
            top = 0;
            whole = 1;
            weights[0] = 1;
            for (int post = 0; post < posts && post < MOST_POSTS - 1; post++) {
                addStop(line.cost(post), line.odds[post]);
            }
        }

        private void addStop(int cost, int odds) {
            int newTop = Math.min(top + cost, MOST_COSTS);
            for (int costs = top + 1; costs <= newTop; costs++) {
                weights[costs] = 0;
            }
            // Downwards, so that each weight below is still that without this POST.
            for (int costs = newTop; costs >= 0; costs--) {
                long with = costs >= cost ? weights[costs - cost] * odds : 0;
                weights[costs] = weights[costs] * (10 - odds) + with;
            }
            top = newTop;
            whole *= 10;
        }

        long weightUpTo(int costs) {
            long sum = 0;
            for (int c = 0; c <= top && c <= costs; c++) {
                sum += weights[c];
            }
            return sum;
        }

        int leastCosts(int hundredths) {
            long sum = 0;
            for (int costs = 0; costs < top; costs++) {
                sum += weights[costs];
                if (sum * 100 >= whole * hundredths) {
                    return costs;
                }
            }
            return top;
        }
    }

    /** Of all sets of POSTS within a limit of COSTS the ones with the most POUNDS. */
    private static final class Purse {
        /* By COSTS that a set has just: its POUNDS (NONE: there is no such set), its POSTS (bits). */
        final int[] pounds = new int[MOST_LIMIT + 1];
        final int[] posts = new int[MOST_LIMIT + 1];

        void fill(Line line, int week, int limit) {
            for (int costs = 0; costs <= limit && costs <= MOST_LIMIT; costs++) {
                pounds[costs] = NONE;
            }
            pounds[0] = 0;
            for (int post = 0; post < line.posts - 1; post++) {
                int there = line.poundsIn(post, week);
                if (there > 0) {
                    addPost(post, there, line.cost(post), limit);
                }
            }
        }

        private void addPost(int post, int there, int cost, int limit) {
            for (int costs = Math.min(limit, MOST_LIMIT); costs >= cost && cost >= 0; costs--) {
                int without = pounds[costs - cost];
                // As this POST's bit is the highest so far, a set with it gives way to an equal one without.
                if (without != NONE && without + there > pounds[costs]) {
                    pounds[costs] = without + there;
                    posts[costs] = posts[costs - cost] | 1 << post;
                }
            }
        }

        int bestCosts(int limit) {
            int best = 0;
            for (int costs = 1; costs <= limit && costs <= MOST_LIMIT; costs++) {
                if (pounds[costs] > pounds[best]) {
                    best = costs;
                }
            }
            return best;
        }
    }

    /** Sets of POSTS that have just the POUNDS and COSTS asked for. */
    private static final class Sets {
        private final int[] bits = new int[MOST_POSTS];
        private final int[] pounds = new int[MOST_POSTS];
        private final int[] costs = new int[MOST_POSTS];
        private final int[] restPounds = new int[MOST_POSTS + 1];
        private final int[] restCosts = new int[MOST_POSTS + 1];
        private final int[] dues = new int[MOST_POSTS];
        private int size;
        int found;
        int sure;
        int maybe;
        int first;

        void clear() {
            size = 0;
        }

        void add(int post, int postPounds, int postCosts) {
            if (size < MOST_POSTS) {
                bits[size] = 1 << post;
                pounds[size] = postPounds;
                costs[size] = postCosts;
                size++;
            }
        }

        int surePosts() {
            return found == 0 ? NONE : sure;
        }

        void find(int ofPounds, int ofCosts) {
            found = 0;
            sure = -1;
            maybe = 0;
            first = 0;
            restPounds[size] = 0;
            restCosts[size] = 0;
            for (int i = size - 1; i >= 0; i--) {
                restPounds[i] = restPounds[i + 1] + pounds[i];
                restCosts[i] = restCosts[i + 1] + costs[i];
            }
            search(this, 0, ofPounds, ofCosts, 0);
        }

        /** At most MOST_POSTS deep, one level a POST; what the POSTS left can't bring about is not searched. */
        private static void search(Sets in, int depth, int ofPounds, int ofCosts, int set) {
            if (depth > in.size || depth > MOST_POSTS || ofPounds < 0 || ofCosts < 0) {
                return;
            }
            if (ofPounds > in.restPounds[depth] || ofCosts > in.restCosts[depth]) {
                return;
            }
            if (depth == in.size) {
                in.keep(set);
                return;
            }
            search(in, depth + 1, ofPounds, ofCosts, set);
            search(in, depth + 1, ofPounds - in.pounds[depth], ofCosts - in.costs[depth], set | in.bits[depth]);
        }

        private void keep(int set) {
            found++;
            sure &= set;
            maybe |= set;
            first = found == 1 ? set : Math.min(first, set);
        }

        /**
         * Sets that HOLD. From one POST SEEN to the next the STOPS are free of all others, so that each such
         * part of the line is searched alone, and the parts are joined.
         */
        void findHolding(Line line, Pairs log) {
            int allFound = fillDues(line, log) ? 1 : 0;
            int allSure = 0;
            int allMaybe = 0;
            int allFirst = 0;
            int costsBefore = 0;
            clear();
            for (int post = 0; post < line.posts && allFound > 0; post++) {
                if (dues[post] != NONE) {
                    find(0, dues[post] - line.minutesTo(post) - costsBefore);
                    allFound *= found;
                    allSure |= sure;
                    allMaybe |= maybe;
                    allFirst |= first;
                    costsBefore = dues[post] - line.minutesTo(post);
                    clear();
                }
                if (post < line.posts - 1) {
                    add(post, 0, line.cost(post));
                }
            }
            // POSTS behind all that was SEEN may be STOPS or not.
            found = allFound << size;
            sure = allSure;
            maybe = allFound == 0 ? 0 : allMaybe | allBits();
            first = allFirst;
        }

        private int allBits() {
            int all = 0;
            for (int i = 0; i < size; i++) {
                all |= bits[i];
            }
            return all;
        }

        /** At which minute the LOG has the train at each POST; false: nothing can be so. */
        private boolean fillDues(Line line, Pairs log) {
            for (int post = 0; post < MOST_POSTS; post++) {
                dues[post] = NONE;
            }
            for (int k = 0; k < log.size; k++) {
                int post = log.first[k];
                if (!line.hasPost(post)) {
                    return false;
                }
                if (dues[post] != NONE && dues[post] != log.second[k]) {
                    return false;
                }
                dues[post] = log.second[k];
            }
            return true;
        }
    }
}
