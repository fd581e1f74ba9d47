/** Term 2, promises 9 to 11, 22, 23, 26, 31: RUNS by LAWS, both sides of what makes a RIDER WANT to STOP. */
final class EdgesOfRuns {
    private static final String POSTS = "post 1 0 9;".repeat(5);
    private static final int[] SEEDS = {0, 1, -1, 2, 65536, 1103515245, Integer.MIN_VALUE, Integer.MAX_VALUE};

    private EdgesOfRuns() {
    }

    static void all() {
        way();
        costs();
        weeksOfPosts();
        onTheTrain();
        wishes();
        pockets();
        patience();
        laws();
        cuts();
        bishops();
        lateness();
        fines();
        draws();
        runs();
        runsRefused();
        pullers();
        latePosts();
        left();
        mostLaws();
        bestWeeks();
        lots();
        lotsRefused();
    }

    private static void stops(String line, long... byWeek) {
        ChestnutLine x = Told.line(line);
        Edge.row("STOPS of " + line + " by weeks", week -> x.run(0, 0, 0, week, 7), 0, byWeek);
    }

    // ---- term 2 ----

    private static void way() {
        Doc.term(2, "The train is at POST 0 at minute 0, goes from POST to POST, each in its MINUTES.");
        ChestnutLine x = Told.line(Told.SAMPLE);
        Edge.row("run by NONE, 100 + p", what -> x.run(0, -1, 0, 0, what), 100, 0, 5, 9, 15, 22);
        // The last POST's MINUTES lead nowhere.
        ChestnutLine y = Told.line("post 30 0 0;".repeat(16));
        Told.due("the last of 16", y.run(0, -1, 0, 0, 0), 450);
        Told.due("the last of 2", Told.line("post 1 0 0;post 30 0 0;").run(0, 0, 0, 0, 0), 1);
    }

    private static void costs() {
        Doc.term(2, "A STOP at a POST (not the last one) takes its COST: HALT and twice the GRADE there;");
        ChestnutLine x = Told.line("post 1 0 1;post 1 1 1;post 1 2 1;post 1 3 1;halt 9;rider 0 3 60 1 200 0;");
        Edge.row("COST", post -> x.post(0, post, 5), 0, 9, 11, 13, -1);
        Edge.row("run, 100 + p", what -> x.run(0, 0, 0, 0, what), 100, 0, 10, 22, 36);
        Told.due("DELAY", x.run(0, 0, 0, 0, 3), 33);
        Doc.term(2, "of GRADE 3, not at POST 0, it can't start uphill, goes back to the POST ahead and comes again: twice MINUTES"
            + " of the stretch behind it more.");
        ChestnutLine y = Told.line("post 30 3 1;post 7 3 1;post 1 3 1;post 5 2 1;post 9 0 1;halt 1;rider 0 4 60 1 200 0;");
        Edge.row("COST", post -> y.post(0, post, 5), 0, 7, 67, 21, 5, -1);
        Edge.row("run, 100 + p", what -> y.run(0, 0, 0, 0, what), 100, 0, 37, 111, 133, 143);
        ChestnutLine z = Told.line("post 30 3 30;".repeat(16) + "halt 9;");
        Edge.row("the highest COSTS", post -> z.post(0, post, 5), 0, 15, 75, 75, 75, 75, 75, 75, 75, 75, 75, 75, 75, 75, 75, 75,
            -1);
    }

    private static void weeksOfPosts() {
        Doc.term(2, "In week w, 0 .. 9, a POST has what is left of its POUNDS, EAT having been eaten w times (0 at least).");
        ChestnutLine x = Told.line("post 1 0 18;post 1 0 17;rider 0 1 60 1 99 0;eat 2;");
        Edge.row("POUNDS", what -> x.post(0, 0, what), 10, 18, 16, 14, 12, 10, 8, 6, 4, 2, 0);
        Edge.row("POUNDS", what -> x.post(0, 1, what), 10, 17, 15, 13, 11, 9, 7, 5, 3, 1, 0);
        Edge.row("POUNDS gathered by weeks", week -> x.run(0, 0, 0, week, 1), 0, 18, 16, 14, 12, 10, 8, 6, 4, 2, 0);
        Edge.row("POUNDS LEFT by weeks", week -> x.left(0, 0, 0, week, 1), 0, 17, 15, 13, 11, 9, 7, 5, 3, 1, 0);
        ChestnutLine y = Told.line("post 1 0 30;post 1 0 0;rider 0 1 60 1 99 0;");
        Edge.row("nothing is eaten", week -> y.run(0, 0, 0, week, 1), 0, 30, 30, 30, 30, 30, 30, 30, 30, 30, 30);
        // What one week's RUN gathered is there again in the next one.
        Told.due("week 0 anew", x.run(0, 0, 0, 0, 1), 18);
    }

    private static void onTheTrain() {
        Doc.term(2, "A RUN by a LAW in a week by a SEED: POST by POST, but the last: those WANT to STOP who are on the train there"
            + " (on at or ahead of it, off behind it),");
        stops(POSTS + "rider 0 4 60 1 200 0;", 0b01111);
        stops(POSTS + "rider 0 1 60 1 200 0;", 0b00001);
        stops(POSTS + "rider 3 4 60 1 200 0;", 0b01000);
        stops(POSTS + "rider 1 3 60 1 200 0;", 0b00110);
        stops(POSTS, 0);
        ChestnutLine x = Told.line("post 1 0 1;".repeat(16) + "rider 0 15 60 1 200 0;halt 1;");
        Told.due("STOPS of 16 POSTS", x.run(0, 0, 0, 0, 7), 32767);
        Told.due("at POST 14", x.who(0, 0, 0, 0, 14), 0);
        Told.due("at the last POST", x.who(0, 0, 0, 0, 15), -1);
    }

    private static void wishes() {
        Doc.term(2, "whose WISH is not above its POUNDS, which are some,");
        stops("post 1 0 9;post 1 0 0;rider 0 1 60 9 200 0;", 1);
        stops("post 1 0 9;post 1 0 0;rider 0 1 60 10 200 0;", 0);
        stops("post 1 0 30;post 1 0 0;rider 0 1 60 30 200 0;", 1);
        stops("post 1 0 0;post 1 0 0;rider 0 1 60 1 200 0;", 0);
        stops("post 1 0 1;post 1 0 0;rider 0 1 60 1 200 0;", 1);
        stops("post 1 0 5;post 1 0 0;rider 0 1 60 3 200 0;eat 1;", 1, 1, 1, 0, 0, 0, 0, 0, 0, 0);
        // POUNDS that there is no room for count as well.
        stops("post 1 0 9;post 1 0 0;rider 0 1 1 9 200 0;", 1);
    }

    private static void pockets() {
        Doc.term(2, "whose POCKET has room,", "all take room.");
        stops(POSTS + "rider 0 4 9 1 200 0;", 0b00001);
        stops(POSTS + "rider 0 4 10 1 200 0;", 0b00011);
        stops(POSTS + "rider 0 4 18 1 200 0;", 0b00011);
        stops(POSTS + "rider 0 4 19 1 200 0;", 0b00111);
        stops(POSTS + "rider 0 4 1 1 200 0;", 0b00001);
        Doc.term(2, "He gathers as many POUNDS as are there and there is room for;");
        ChestnutLine x = Told.line(POSTS + "rider 0 4 19 1 200 0;");
        Edge.row("LEFT", post -> x.left(0, 0, 0, 0, post), -1, 26, 0, 0, 8, 9, 9);
        Told.due("POUNDS gathered", x.run(0, 0, 0, 0, 1), 19);
        ChestnutLine y = Told.line("post 1 0 30;post 1 0 30;post 1 0 30;rider 0 2 60 1 200 0;");
        Told.due("the greatest POCKET", y.run(0, 0, 0, 0, 1), 60);
    }

    private static void patience() {
        Doc.term(2, "whose PATIENCE is not below the DELAY (all COSTS up to then) and this COST.");
        stops(POSTS + "rider 0 4 60 1 1 0;", 0);
        stops(POSTS + "rider 0 4 60 1 2 0;", 0b00001);
        stops(POSTS + "rider 0 4 60 1 3 0;", 0b00001);
        stops(POSTS + "rider 0 4 60 1 4 0;", 0b00011);
        stops(POSTS + "rider 0 4 60 1 7 0;", 0b00111);
        stops(POSTS + "rider 0 4 60 1 8 0;", 0b01111);
        stops(POSTS + "rider 0 4 60 1 0 0;", 0);
        // The DELAY that others made counts; minutes on the way do not.
        stops("post 30 0 9;post 30 0 9;post 30 0 9;post 1 0 0;rider 0 2 60 1 9 0;rider 2 3 60 1 6 0;", 0b111);
        stops("post 30 0 9;post 30 0 9;post 30 0 9;post 1 0 0;rider 0 2 60 1 9 0;rider 2 3 60 1 5 0;", 0b011);
        // A STOP that costs too much is passed by, a cheaper one further on is not.
        stops("post 1 2 9;post 1 0 9;post 1 0 0;rider 0 2 60 1 5 0;", 0b10);
        stops("post 1 2 9;post 1 0 9;post 1 0 0;rider 0 2 60 1 6 0;", 0b01);
    }

    private static void pulled(String of, ChestnutLine x, int law, int seed, long... due) {
        Edge.row(of, post -> x.who(0, law, seed, 0, post), 0, due);
    }

    private static void laws() {
        ChestnutLine x = Told.line(POSTS + "rider 1 4 9 1 200 3;rider 0 3 9 1 200 3;rider 0 4 60 1 200 9;");
        Doc.term(2, "FREE (0): of those who WANT the least one pulls;");
        pulled("FREE", x, 0, 0, 1, 0, 2, 2, -1);
        Doc.term(2, "ONE (1): likewise, but each pulls once at most;");
        pulled("ONE", x, 1, 0, 1, 0, 2, -1, -1);
        // He who has pulled and has room left still WANTS, but the next one pulls.
        pulled("ONE with room", Told.line(POSTS + "rider 0 4 60 1 200 0;rider 0 4 60 1 200 0;"), 1, 0, 0, 1, -1, -1, -1);
        Doc.term(2, "FARES (3): the one with the highest FARE, of several the least.");
        pulled("FARES", x, 3, 0, 2, 2, 2, 2, -1);
        ChestnutLine y = Told.line(POSTS + "rider 0 4 9 1 200 0;rider 0 4 9 1 200 9;rider 0 4 9 1 200 9;rider 0 4 9 1 200 8;");
        pulled("FARES, several", y, 3, 0, 1, 2, 3, 0, -1);
        Doc.term(2, "NONE (-1): nobody pulls.");
        pulled("NONE", x, -1, 0, -1, -1, -1, -1, -1);
        Told.due("STOPS by NONE", x.run(0, -1, 0, 0, 7), 0);
        Told.due("POUNDS by NONE", x.run(0, -1, 0, 0, 1), 0);
    }

    private static void cuts() {
        Doc.term(2, "of these every third one (cut) goes to the STOVE, the others he KEEPS;");
        int[] stove = {0, 0, 1, 1, 1, 2, 2, 2, 3};
        for (int pounds = 1; pounds <= 9; pounds++) {
            ChestnutLine x = Told.line("post 1 0 " + pounds + ";post 1 0 0;rider 0 1 60 1 9 0;");
            Told.due("the STOVE of " + pounds, x.run(0, 0, 0, 0, 4), stove[pounds - 1]);
            Told.due("KEEPS of " + pounds, x.run(0, 0, 0, 0, 200), pounds - stove[pounds - 1]);
        }
        // Each STOP by itself: twice 2 of 5 gathered by one, and 2 by another one, are no third.
        ChestnutLine y = Told.line("post 1 0 2;post 1 0 2;post 1 0 2;post 1 0 0;rider 0 2 60 1 9 0;rider 2 3 60 1 9 0;");
        Told.due("the STOVE of twos", y.run(0, 0, 0, 0, 4), 0);
        Told.due("KEEPS of two twos", y.run(0, 0, 0, 0, 200), 4);
        Told.due("KEEPS of one two", y.run(0, 0, 0, 0, 201), 2);
    }

    private static void bishops() {
        Doc.term(2, "The BISHOP gets out at as many STOPS as his temper is.");
        int[] out = {-1, 0, 2, 3, 5, -1, -1, -1, -1, -1};
        for (int temper = 0; temper <= 9; temper++) {
            ChestnutLine x = Told.line("post 1 0 1;post 1 0 0;post 1 0 1;post 1 0 1;post 1 0 0;post 1 0 1;post 1 0 0;"
                + "rider 0 6 60 1 99 0;bishop " + temper + ";");
            Told.due("BISHOP of " + temper, x.run(0, 0, 0, 0, 6), out[temper]);
            Told.due("BISHOP of " + temper + " by NONE", x.run(0, -1, 0, 0, 6), -1);
        }
    }

    private static void lateness() {
        Doc.term(2, "At a STATION the train is LATE by as many minutes as it comes behind its printed one, at least 0;");
        // It comes to POST 1 at 5, with the STOP at POST 0 at 7; its own STOP there makes it later further on alone.
        int[][] due = {{0, 5, 7}, {4, 1, 3}, {5, 0, 2}, {6, 0, 1}, {7, 0, 0}, {8, 0, 0}, {999, 0, 0}};
        for (int[] d : due) {
            ChestnutLine x = Told.line("post 5 0 1;post 5 0 1;post 1 0 1;station 1 " + d[0] + ";rider 0 2 60 1 99 0;");
            Told.due("LATE by NONE, " + d[0] + " printed", x.late(0, -1, 0, 0, 1), d[1]);
            Told.due("LATE by FREE, " + d[0] + " printed", x.late(0, 0, 0, 0, 1), d[2]);
        }
        ChestnutLine y = Told.line("post 5 0 1;post 5 0 1;station 0 0;rider 0 1 60 1 99 0;");
        Told.due("LATE at POST 0", y.late(0, 0, 0, 0, 0), 0);
    }

    private static void fines() {
        Doc.term(2, "FINES: what of these is above GRACE, of all STATIONS together.");
        // LATE by 0, 7, 14 and 25: what is above GRACE at each of them.
        int[][] due = {{0, 46}, {6, 28}, {7, 25}, {8, 23}, {13, 13}, {14, 11}, {24, 1}, {25, 0}, {26, 0}, {60, 0}};
        for (int[] d : due) {
            ChestnutLine x = Told.line("post 5 0 1;post 5 0 1;post 9 0 1;post 1 0 1;station 0 50;station 1 0;station 2 0;"
                + "station 3 0;grace " + d[0] + ";rider 0 3 60 1 99 0;");
            Told.due("FINES with GRACE " + d[0], x.run(0, 0, 0, 0, 5), d[1]);
        }
        ChestnutLine y = Told.line("post 5 0 1;post 5 0 1;rider 0 1 60 1 99 0;");
        Told.due("FINES without STATIONS", y.run(0, 0, 0, 0, 5), 0);
    }

    private static int[] drawn(int seed, int... below) {
        long x = seed & 0xffffffffL;
        int[] numbers = new int[below.length];
        for (int i = 0; i < below.length; i++) {
            x = (x * 1103515245L + 12345) % (1L << 32);
            numbers[i] = (int) (x / 65536 % below[i]);
        }
        return numbers;
    }

    private static void draws() {
        Doc.term(2, "LOTS (2): one of them is drawn;", "DRAWN by a SEED, x; a number below n is drawn: x becomes x * 1103515245 +"
            + " 12345 (of 32 bits), it is x shifted right by 16 without sign, remainder by n: by LOTS at each POST where some"
            + " WANT, of how many these are: the i-th of them.");
        ChestnutLine x = Told.line("post 1 0 1;".repeat(16) + "rider 0 15 60 1 99 0;".repeat(6) + "halt 1;");
        // Two WANT at POSTS 0, 1; nobody at 2; RIDER 2 alone at 3; RIDERS 1, 2, 3 at 4.
        ChestnutLine y = Told.line("post 1 0 1;post 1 0 1;post 1 0 0;post 1 0 1;post 1 0 1;post 1 0 1;rider 0 2 60 1 99 0;"
            + "rider 4 5 60 1 99 0;rider 0 5 60 1 99 0;rider 4 5 60 1 99 0;");
        for (int seed : SEEDS) {
            int[] six = drawn(seed, 6, 6, 6, 6, 6, 6, 6, 6, 6, 6, 6, 6, 6, 6, 6);
            for (int post = 0; post < 15; post++) {
                Told.due("SEED " + seed + " at POST " + post, x.who(0, 2, seed, 0, post), six[post]);
            }
            int[] some = drawn(seed, 2, 2, 1, 3);
            pulled("SEED " + seed, y, 2, seed, 2 * some[0], 2 * some[1], -1, 2, 1 + some[3], -1);
        }
    }

    // ---- promises 9 to 11 and 31 ----

    private static void runs() {
        Doc.promise(9, "Of a RUN, law NONE .. 3, week 0 .. 9, what 0: the minute at the last POST, 1: POUNDS gathered, 2: how many"
            + " STOPS, 3: DELAY, 4: what the STOVE gets, 5: FINES, 6: where the BISHOP gets out (NONE), 7: STOPS (bits), 100 + p:"
            + " the minute at which it comes to POST p, 200 + r: what RIDER r KEEPS.");
        ChestnutLine x = Edge.twoLines();
        Edge.row("run(0, 0, 0, 0, ..)", what -> x.run(0, 0, 0, 0, what), 0, 44, 10, 2, 22, 3, 34, 1, 3);
        Edge.row("run(0, 0, 0, 0, ..)", what -> x.run(0, 0, 0, 0, what), 100, 0, 8, 31, 37, 44);
        Edge.row("run(0, 0, 0, 0, ..)", what -> x.run(0, 0, 0, 0, what), 200, 7, 0);
        Edge.row("run(1, 0, 0, 0, ..)", what -> x.run(1, 0, 0, 0, what), 0, 6, 6, 1, 4, 2, 5, 0, 1);
        Edge.row("run(1, 0, 0, 0, ..)", what -> x.run(1, 0, 0, 0, what), 100, 0, 6);
        Edge.row("run(1, 0, 0, 0, ..)", what -> x.run(1, 0, 0, 0, what), 200, 4);
        ChestnutLine full = Told.line(Edge.fullText());
        Edge.range("run of a full one", what -> full.run(0, 0, 0, 0, what), 100, 0, 115, 30, -2);
        Edge.range("run of a full one", what -> full.run(0, 1, 0, 0, what), 200, 6, 205, 6, -2);
        Told.due("its FINES", full.run(0, -1, 0, 0, 5), 120);
    }

    private static void runsRefused() {
        Doc.promise(9, "-2: there is none such (of any), or for another what.");
        ChestnutLine x = Edge.twoLines();
        Edge.range("run(.., 0, 0, 0, 0)", line -> x.run(line, 0, 0, 0, 0), 0, 44, 1, 6, -2);
        Edge.range("run(0, .., 0, 0, 0)", law -> x.run(0, law, 0, 0, 0), -1, 22, 3, 44, -2);
        Edge.range("run(0, 0, 0, .., 1)", week -> x.run(0, 0, 0, week, 1), 0, 10, 9, 0, -2);
        Edge.range("run(0, 0, 0, 0, ..)", what -> x.run(0, 0, 0, 0, what), 0, 44, 7, 3, -2);
        Edge.range("run(0, 0, 0, 0, ..)", what -> x.run(0, 0, 0, 0, what), 100, 0, 104, 44, -2);
        Edge.range("run(0, 0, 0, 0, ..)", what -> x.run(0, 0, 0, 0, what), 200, 7, 201, 0, -2);
        for (int seed : SEEDS) {
            Told.due("run by SEED " + seed, x.run(0, 0, seed, 0, 0), 44);
        }
        ChestnutLine none = Told.line("post 1 0 1;post 1 0 1;");
        Edge.refused("run without RIDERS", what -> none.run(0, 0, 0, 0, what), -2, 8, 99, 102, 199, 200, 205);
        ChestnutLine nothing = new ChestnutLine();
        Edge.refused("run, nothing told", what -> nothing.run(0, 0, 0, 0, what), -2, -1, 0, 6, 7, 100, 200);
    }

    private static void pullers() {
        Doc.promise(10, "Who pulls at a POST, NONE: nobody.");
        ChestnutLine x = Edge.twoLines();
        pulled("who(0, 0, 0, 0, ..)", x, 0, 0, 0, 0, -1, -1, -1);
        Doc.promise(10, "-2: as run(), or there is no such POST.");
        Edge.range("who(.., 0, 0, 0, 0)", line -> x.who(line, 0, 0, 0, 0), 0, 0, 1, 0, -2);
        Edge.range("who(0, .., 0, 0, 0)", law -> x.who(0, law, 0, 0, 0), -1, -1, 3, 0, -2);
        Edge.range("who(0, 0, 0, .., 0)", week -> x.who(0, 0, 0, week, 0), 0, 0, 9, -1, -2);
        Edge.range("who(0, 0, 0, 0, ..)", post -> x.who(0, 0, 0, 0, post), 0, 0, 4, -1, -2);
        Edge.range("who(1, 0, 0, 0, ..)", post -> x.who(1, 0, 0, 0, post), 0, 0, 1, -1, -2);
        ChestnutLine full = Told.line(Edge.fullText());
        Edge.range("who of a full one", post -> full.who(0, 0, 0, 0, post), 0, 0, 15, -1, -2);
        ChestnutLine nothing = new ChestnutLine();
        Edge.refused("who, nothing told", post -> nothing.who(0, 0, 0, 0, post), -2, -1, 0, 1);
    }

    private static void latePosts() {
        Doc.promise(11, "LATE at a POST that is a STATION.");
        ChestnutLine x = Edge.twoLines();
        Edge.row("late(0, 0, 0, 0, ..)", post -> x.late(0, 0, 0, 0, post), 0, 0, -1, 19, -1, 19);
        Edge.row("late(1, 0, 0, 0, ..)", post -> x.late(1, 0, 0, 0, post), 0, 0, 5);
        Doc.promise(11, "NONE: it is none, or as who().");
        Edge.range("late(.., 0, 0, 0, 0)", line -> x.late(line, 0, 0, 0, 0), 0, 0, 1, 0, -1);
        Edge.range("late(0, .., 0, 0, 2)", law -> x.late(0, law, 0, 0, 2), -1, 0, 3, 19, -1);
        Edge.range("late(0, 0, 0, .., 2)", week -> x.late(0, 0, 0, week, 2), 0, 19, 9, 0, -1);
        Edge.range("late(0, 0, 0, 0, ..)", post -> x.late(0, 0, 0, 0, post), 0, 0, 4, 19, -1);
        ChestnutLine full = Told.line(Edge.fullText());
        Edge.range("late of a full one", post -> full.late(0, -1, 0, 0, post), 0, 0, 15, 15, -1);
        ChestnutLine nothing = new ChestnutLine();
        Edge.refused("late, nothing told", post -> nothing.late(0, 0, 0, 0, post), -1, -1, 0, 1);
        ChestnutLine none = Told.line("post 1 0 1;post 1 0 1;");
        Edge.refused("late without STATIONS", post -> none.late(0, 0, 0, 0, post), -1, -1, 0, 1, 2);
    }

    private static void left() {
        Doc.term(6, "LEFT: POUNDS that are at a POST behind a RUN.");
        Doc.promise(31, "LEFT at a POST, or (post NONE) at all POSTS together.");
        ChestnutLine x = Edge.twoLines();
        Edge.row("left(0, 0, 0, 0, ..)", post -> x.left(0, 0, 0, 0, post), -1, 22, 0, 5, 0, 12, 5);
        Edge.row("left(0, NONE, 0, 3, ..)", post -> x.left(0, -1, 0, 3, post), -1, 20, 6, 3, 0, 9, 2);
        Edge.row("left(1, 0, 0, 0, ..)", post -> x.left(1, 0, 0, 0, post), -1, 5, 1, 4);
        Doc.promise(31, "-2: as run(), or there is no such POST.");
        Edge.range("left(.., 0, 0, 0, NONE)", line -> x.left(line, 0, 0, 0, -1), 0, 22, 1, 5, -2);
        Edge.range("left(0, .., 0, 0, 0)", law -> x.left(0, law, 0, 0, 0), -1, 9, 3, 0, -2);
        Edge.range("left(0, 0, 0, .., 3)", week -> x.left(0, 0, 0, week, 3), 0, 12, 9, 3, -2);
        Edge.range("left(0, 0, 0, 0, ..)", post -> x.left(0, 0, 0, 0, post), -1, 22, 4, 5, -2);
        ChestnutLine full = Told.line(Edge.fullText());
        Edge.range("left of a full one", post -> full.left(0, 0, 0, 0, post), -1, 15, 15, 9, -2);
        ChestnutLine nothing = new ChestnutLine();
        Edge.refused("left, nothing told", post -> nothing.left(0, 0, 0, 0, post), -2, -1, 0, 1);
    }

    // ---- promises 22, 23 and 26 ----

    private static void mostLaws() {
        Doc.term(5, "MOST, WEEKS: of several the least.");
        Doc.promise(22, "MOST of a week by a SEED: the LAW (0 .. 3) by which most POUNDS are gathered, or (late) by which DELAY is"
            + " least.");
        // RIDER 0 at POSTS 0, 1 for one POUND each makes RIDER 1 lose patience for the 30 at POST 2, but by ONE.
        ChestnutLine one = Told.line("post 1 0 1;post 1 0 1;post 1 0 30;post 1 0 0;rider 0 2 60 1 99 0;rider 2 3 60 30 4 0;");
        Told.due("most by ONE", one.most(0, 0, 0, false), 1);
        Told.due("of equal DELAYS the least", one.most(0, 0, 0, true), 0);
        // Of two one has room for 1, the other for 30, and a higher FARE; SEED 0 draws the first, 3 the second.
        ChestnutLine fares = Told.line("post 1 0 30;post 1 0 0;rider 0 1 1 1 99 0;rider 0 1 60 1 99 1;");
        Told.due("SEED 0", fares.who(0, 2, 0, 0, 0), 0);
        Told.due("SEED 3", fares.who(0, 2, 3, 0, 0), 1);
        Told.due("most by FARES", fares.most(0, 0, 0, false), 3);
        Told.due("most by LOTS, of several the least", fares.most(0, 3, 0, false), 2);
        // RIDER 1 could pull at both POSTS but has room for one of them alone.
        ChestnutLine fewer = Told.line("post 1 0 30;post 1 0 30;post 1 0 0;rider 0 1 30 1 99 0;rider 0 2 30 1 99 1;");
        Told.due("least DELAY by FARES", fewer.most(0, 0, 0, true), 3);
        Told.due("least DELAY by LOTS, of several the least", fewer.most(0, 3, 0, true), 2);
        Told.due("most by FREE", fewer.most(0, 0, 0, false), 0);
        ChestnutLine none = Told.line("post 1 0 1;post 1 0 1;");
        Told.due("without RIDERS", none.most(0, 0, 0, false), 0);
        Told.due("without RIDERS, late", none.most(0, 0, 0, true), 0);
        Doc.promise(22, "NONE: there is none such (of either).");
        ChestnutLine x = Edge.twoLines();
        Edge.range("most(.., 0, 0, true)", line -> x.most(line, 0, 0, true), 0, 1, 1, 0, -1);
        Edge.range("most(.., 0, 0, false)", line -> x.most(line, 0, 0, false), 0, 0, 1, 0, -1);
        Edge.range("most(0, 0, .., true)", week -> x.most(0, 0, week, true), 0, 1, 9, 0, -1);
        for (int seed : SEEDS) {
            Told.due("most by SEED " + seed, x.most(0, seed, 0, true), 1);
        }
        Edge.refused("most, nothing told", line -> new ChestnutLine().most(line, 0, 0, true), -1, -1, 0, 1);
    }

    private static void bestWeeks() {
        Doc.promise(23, "WEEKS by a LAW, 0 .. 3, and a SEED: the week with the most POUNDS, or (sum) those of all weeks together.");
        ChestnutLine x = Edge.twoLines();
        Told.due("the first week", x.weeks(1, 0, 0, false), 0);
        Told.due("6, 5 and 3 together", x.weeks(1, 0, 0, true), 14);
        // Till week 8 RIDER 0 takes 1 of POST 0, and RIDER 1 has no patience left for POST 1; in week 9 it has 21.
        ChestnutLine last = Told.line("post 1 0 18;post 1 0 30;post 1 0 0;rider 0 1 1 10 99 0;rider 1 2 60 1 2 0;eat 1;");
        Told.due("the last week", last.weeks(0, 0, 0, false), 9);
        Told.due("nine times 1, and 21", last.weeks(0, 0, 0, true), 30);
        ChestnutLine same = Told.line("post 1 0 18;post 1 0 0;rider 0 1 60 1 99 0;");
        Told.due("of equal weeks the least", same.weeks(0, 0, 0, false), 0);
        Told.due("ten times 18", same.weeks(0, 0, 0, true), 180);
        ChestnutLine none = Told.line("post 1 0 1;post 1 0 1;");
        Told.due("no POUNDS in any week", none.weeks(0, 0, 0, false), 0);
        Told.due("no POUNDS in all weeks", none.weeks(0, 0, 0, true), 0);
        // Each week is drawn from the SEED anew.
        ChestnutLine draw = Told.line("post 1 0 9;post 1 0 9;post 1 0 0;rider 0 2 1 1 99 0;rider 0 2 60 1 99 0;eat 1;");
        for (int seed : SEEDS) {
            int all = 0;
            for (int week = 0; week < 10; week++) {
                all += draw.run(0, 2, seed, week, 1);
            }
            Told.due("weeks by SEED " + seed, draw.weeks(0, 2, seed, true), all);
        }
        Doc.promise(23, "NONE: there is none such (of either).");
        Edge.range("weeks(.., 0, 0, true)", line -> x.weeks(line, 0, 0, true), 0, 61, 1, 14, -1);
        Edge.range("weeks(0, .., 0, true)", law -> x.weeks(0, law, 0, true), 0, 61, 3, 61, -1);
        Edge.range("weeks(0, .., 0, false)", law -> x.weeks(0, law, 0, false), 0, 0, 3, 0, -1);
        Edge.refused("weeks, nothing told", line -> new ChestnutLine().weeks(line, 0, 0, true), -1, -1, 0, 1);
    }

    private static void lots() {
        Doc.term(5, "LOTS: RUNS by LOTS of SEED, SEED + 1, ..: all together.");
        Doc.promise(26, "LOTS of w, 1 .. 20, SEEDS from one on, what 0: POUNDS, 1: DELAYS, 2: in how many the BISHOP gets out.");
        // RIDER 0 has room for 1, RIDER 1 for 9: who is drawn decides on POUNDS, STOPS and the BISHOP.
        ChestnutLine x = Told.line("post 1 0 9;post 1 2 9;post 1 0 0;rider 0 1 1 1 99 0;rider 0 2 9 1 99 0;bishop 2;");
        for (int seed : new int[] {0, -1, Integer.MAX_VALUE, Integer.MAX_VALUE - 10, Integer.MIN_VALUE}) {
            int[] sums = new int[3];
            for (int w = 1; w <= 20; w++) {
                // The one drawn first, of two: the second takes all of POST 0 and has no room for POST 1.
                boolean first = drawn(seed + w - 1, 2)[0] == 0;
                sums[0] += first ? 10 : 9;
                sums[1] += first ? 8 : 2;
                sums[2] += first ? 1 : 0;
                if (w < 3 || w > 18) {
                    for (int what = 0; what < 3; what++) {
                        Told.due("LOTS of " + w + " from " + seed + ", " + what, x.lots(0, 0, seed, w, what), sums[what]);
                    }
                }
            }
        }
    }

    private static void lotsRefused() {
        Doc.promise(26, "NONE: there is none such (of any), another w, or for another what.");
        ChestnutLine x = Edge.twoLines();
        Edge.range("lots(.., 0, 0, 1, 0)", line -> x.lots(line, 0, 0, 1, 0), 0, 10, 1, 6, -1);
        Edge.range("lots(0, .., 0, 1, 0)", week -> x.lots(0, week, 0, 1, 0), 0, 10, 9, 0, -1);
        Edge.range("lots(0, 0, 0, .., 0)", w -> x.lots(0, 0, 0, w, 0), 1, 10, 20, 200, -1);
        Edge.range("lots(0, 0, 0, 1, ..)", what -> x.lots(0, 0, 0, 1, what), 0, 10, 2, 1, -1);
        Told.due("DELAYS of 20", x.lots(0, 0, 0, 20, 1), 440);
        Told.due("the BISHOP of 20", x.lots(0, 0, 0, 20, 2), 20);
        ChestnutLine none = Told.line("post 1 0 1;post 1 0 1;rider 0 1 9 1 9 0;");
        Told.due("no BISHOP", none.lots(0, 0, 0, 20, 2), 0);
        Edge.refused("lots, nothing told", line -> new ChestnutLine().lots(line, 0, 0, 1, 0), -1, -1, 0, 1);
    }
}
