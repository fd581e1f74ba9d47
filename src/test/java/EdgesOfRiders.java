/** Of terms 3, 5 and 6 REST, GAIN, CALM, RICH, SPARE, VOTE, BID, FIT, ROUSE; promises 13, 14, 24, 25, 30 and 32. */
final class EdgesOfRiders {
    private static final String FOUR = "post 1 0 9;post 1 0 9;post 1 0 9;post 1 0 9;post 1 0 0;";

    private EdgesOfRiders() {
    }

    static void all() {
        gains();
        gainsRefused();
        rests();
        restsOfMany();
        restsRefused();
        calm();
        calmOfBishops();
        calmRefused();
        rich();
        spare();
        richRefused();
        votes();
        votesRefused();
        bids();
        fits();
        rouses();
        bidsRefused();
    }

    // ---- GAIN and REST ----

    private static void gains() {
        Doc.term(3, "one's GAIN is ten times what he KEEPS less the DELAY when he gets off (all COSTS ahead of that POST).");
        Doc.promise(14, "GAIN of a RIDER, if just a set of them pulls.");
        // STOPS at POSTS 0, 1, 2, 3 as far as RIDER 0 pulls; the others get off on the way and never pull.
        ChestnutLine x = Told.line(FOUR + "rider 0 4 60 1 99 0;rider 0 1 1 30 0 0;rider 0 2 1 30 0 0;rider 2 3 1 30 0 0;");
        Edge.row("GAIN if RIDER 0 pulls", rider -> x.gain(0, 0, 1, rider), 0, 240 - 8, -2, -4, -6);
        Edge.row("GAIN if none pulls", rider -> x.gain(0, 0, 0, rider), 0, 0, 0, 0, 0);
        Edge.row("GAIN if all pull", rider -> x.gain(0, 0, 15, rider), 0, 240 - 8, -2, -4, -6);
        Edge.row("GAIN if the others pull", rider -> x.gain(0, 0, 14, rider), 0, 0, 0, 0, 0);
        // A COST at the POST itself is not ahead of it.
        ChestnutLine y = Told.line("post 1 0 9;post 1 0 9;post 1 0 9;rider 0 1 60 1 99 0;rider 1 2 60 1 99 0;");
        Edge.row("GAIN if both pull", rider -> y.gain(0, 0, 3, rider), 0, 60 - 2, 60 - 4);
        Edge.row("GAIN if RIDER 1 pulls", rider -> y.gain(0, 0, 2, rider), 0, 0, 60 - 2);
        ChestnutLine z = Edge.twoLines();
        Edge.row("GAIN by weeks", week -> z.gain(1, week, 1, 0), 0, 36, 36, 16, 0, 0, 0, 0, 0, 0, 0);
    }

    private static void gainsRefused() {
        Doc.promise(14, "-1000000: there is none such (of any).");
        ChestnutLine x = Edge.twoLines();
        Edge.range("gain(.., 0, 1, 0)", line -> x.gain(line, 0, 1, 0), 0, 48, 1, 36, -1000000);
        Edge.range("gain(0, .., 1, 0)", week -> x.gain(0, week, 1, 0), 0, 48, 9, 0, -1000000);
        Edge.range("gain(0, 0, .., 0)", set -> x.gain(0, 0, set, 0), 0, 0, 3, 48, -1000000);
        Edge.range("gain(1, 0, .., 0)", set -> x.gain(1, 0, set, 0), 0, 0, 1, 36, -1000000);
        Edge.range("gain(0, 0, 3, ..)", rider -> x.gain(0, 0, 3, rider), 0, 48, 1, -22, -1000000);
        ChestnutLine full = Told.line(Edge.fullText());
        // RIDER 0 fills his POCKET at seven POSTS, six of 9 and one of 6: 40 KEPT; the others make 15 STOPS of it.
        Edge.range("gain of a full one", set -> full.gain(0, 0, set, 0), 0, 0, 63, 385, -1000000);
        Edge.range("gain of a full one", rider -> full.gain(0, 0, 63, rider), 0, 385, 5, -15, -1000000);
        ChestnutLine none = Told.line("post 1 0 1;post 1 0 1;");
        Edge.refused("gain without RIDERS", rider -> none.gain(0, 0, 0, rider), -1000000, -1, 0, 1);
        Edge.refused("gain, nothing told", line -> new ChestnutLine().gain(line, 0, 0, 0), -1000000, -1, 0, 1);
    }

    private static void rests(String line, long... due) {
        ChestnutLine x = Told.line(line);
        long[] all = new long[due.length + 2];
        all[0] = due.length;
        System.arraycopy(due, 0, all, 1, due.length);
        all[due.length + 1] = -2;
        Edge.row("REST of " + line, k -> x.rest(0, 0, k), -1, all);
    }

    private static void rests() {
        Doc.term(3, "REST: sets of RIDERS (bits) so that, if just these pull (FREE; others never), none gains by changing alone:");
        // One POUND for a COST of 9, 10 and 11 (HALT and 6 of GRADE 3).
        rests("post 1 3 1;post 1 0 0;halt 3;rider 0 1 9 1 99 0;", 1);
        rests("post 1 3 1;post 1 0 0;halt 4;rider 0 1 9 1 99 0;", 0, 1);
        rests("post 1 3 1;post 1 0 0;halt 5;rider 0 1 9 1 99 0;", 0);
        rests("post 1 0 1;post 1 0 0;", 0);
        // The least of two pulls: the second one's pulling changes nothing but if the first one does not.
        rests("post 1 0 9;post 1 0 0;rider 0 1 9 1 99 0;rider 0 1 9 1 99 0;", 1, 3);
        // RIDER 0 pulls for 1 POUND at 11 rather than let RIDER 1 pull; RIDER 1 pulls for 3, but not behind RIDER 0.
        rests("post 1 0 0;post 1 1 3;post 1 1 1;post 1 0 0;halt 9;rider 0 2 1 1 200 0;rider 1 3 60 1 200 0;");
    }

    private static void restsOfMany() {
        Doc.promise(13, "REST: how many sets (k NONE), or the k-th by numbers (bits).");
        // Nobody has PATIENCE: all sets are as good.
        ChestnutLine x = Told.line("post 1 0 9;post 1 0 0;" + "rider 0 1 9 1 0 0;".repeat(6));
        Told.due("how many", x.rest(0, 0, -1), 64);
        Edge.row("the first ones", k -> x.rest(0, 0, k), 0, 0, 1, 2, 3);
        Edge.row("the last ones", k -> x.rest(0, 0, k), 62, 62, 63, -2);
        ChestnutLine y = Told.line(Told.SAMPLE);
        Edge.row("REST of the sample", k -> y.rest(0, 0, k), -1, 2, 1, 3, -2);
        ChestnutLine z = Edge.twoLines();
        // What was found for a VOTE is nothing to REST.
        Told.due("VOTE", z.vote(1, 0, 0, false), 0);
        Edge.row("REST behind it", k -> z.rest(1, 0, k), -1, 1, 1, -2);
        Edge.row("how many by weeks", week -> z.rest(1, week, -1), 0, 1, 1, 1, 2, 2, 2, 2, 2, 2, 2);
    }

    private static void restsRefused() {
        Doc.promise(13, "-2: there is none such (of any).");
        ChestnutLine x = Edge.twoLines();
        Edge.range("rest(.., 0, NONE)", line -> x.rest(line, 0, -1), 0, 2, 1, 1, -2);
        Edge.range("rest(0, .., NONE)", week -> x.rest(0, week, -1), 0, 2, 9, 4, -2);
        Edge.range("rest(0, 0, ..)", k -> x.rest(0, 0, k), -1, 2, 1, 3, -2);
        Edge.range("rest(1, 0, ..)", k -> x.rest(1, 0, k), -1, 1, 0, 1, -2);
        ChestnutLine many = Told.line("post 1 0 9;post 1 0 0;" + "rider 0 1 9 1 0 0;".repeat(6));
        Edge.range("rest of 64", k -> many.rest(0, 0, k), -1, 64, 63, 63, -2);
        Edge.refused("rest, nothing told", line -> new ChestnutLine().rest(line, 0, -1), -2, -1, 0, 1);
    }

    // ---- CALM ----

    /* RIDERS 0 and 1 make one STOP of 2 each, RIDER 2 makes two. */
    private static final String THREE = FOUR + "rider 0 1 9 1 99 0;rider 1 2 9 1 99 0;rider 2 4 60 1 99 0;";

    private static void calm() {
        Doc.term(5, "CALM: the fewest RIDERS (bits) who never pull, so that by FREE the DELAY is not above a limit", "of several the"
            + " least number.");
        ChestnutLine x = Told.line(THREE);
        Edge.row("CALM by limits", limit -> x.calm(0, 0, limit), 0, 7, 7, 0b101, 0b101, 0b100, 0b100, 0b001, 0b001, 0, 0);
        Told.due("CALM by 999", x.calm(0, 0, 999), 0);
        // Whoever is still lets the next one pull.
        ChestnutLine y = Told.line("post 1 0 9;post 1 0 0;" + "rider 0 1 9 1 99 0;".repeat(6));
        Edge.row("CALM of six", limit -> y.calm(0, 0, limit), 0, 63, 63, 0);
        ChestnutLine none = Told.line("post 1 0 9;post 1 0 0;");
        Told.due("CALM without RIDERS", none.calm(0, 0, 0), 0);
        // COSTS of 990 together: what is allowed at most is more.
        ChestnutLine dear = Told.line("post 30 3 9;".repeat(16) + "halt 9;" + "rider 0 15 60 1 200 0;");
        Told.due("CALM by 164: a STOP of 15 and two of 75", dear.calm(0, 0, 164), 1);
        Told.due("CALM by 165", dear.calm(0, 0, 165), 0);
        ChestnutLine week = Edge.twoLines();
        Edge.row("CALM by weeks", w -> week.calm(1, w, 3), 0, 1, 1, 1, 0, 0, 0, 0, 0, 0, 0);
    }

    private static void calmOfBishops() {
        Doc.term(5, "(the BISHOP: he does not get out);");
        Doc.promise(24, "CALM by a limit, 0 .. 999, or (limit NONE) by the BISHOP (bits).");
        int[] due = {0, 7, 0b101, 0b100, 0b001, 0, 0, 0, 0, 0};
        for (int temper = 0; temper <= 9; temper++) {
            ChestnutLine x = Told.line(THREE + "bishop " + temper + ";");
            Told.due("CALM by a BISHOP of " + temper, x.calm(0, 0, -1), due[temper]);
        }
    }

    private static void calmRefused() {
        Doc.promise(24, "NONE: there is none such (of any), or another limit.");
        ChestnutLine x = Edge.twoLines();
        Edge.range("calm(.., 0, 0)", line -> x.calm(line, 0, 0), 0, 1, 1, 1, -1);
        Edge.range("calm(0, .., 0)", week -> x.calm(0, week, 0), 0, 1, 9, 0, -1);
        Edge.range("calm(0, 0, ..)", limit -> x.calm(0, 0, limit), -1, 1, 999, 0, -1);
        Told.due("calm(0, 0, 0)", x.calm(0, 0, 0), 1);
        Edge.refused("calm, nothing told", limit -> new ChestnutLine().calm(0, 0, limit), -1, -1, 0, 999);
    }

    // ---- RICH and SPARE ----

    private static void rich() {
        Doc.term(5, "RICH: the RIDER who KEEPS most; of several the least.");
        Doc.promise(25, "RICH by a LAW,", "NONE: nobody KEEPS anything");
        // 3 at once, of which 2 are KEPT; three times 1: as many gathered, more KEPT.
        ChestnutLine x = Told.line("post 1 0 3;post 1 0 1;post 1 0 1;post 1 0 1;post 1 0 0;rider 0 1 9 1 99 0;"
            + "rider 1 4 9 1 99 0;");
        Told.due("KEEPS 2 or 3", x.rich(0, 0, 0, 0, false), 1);
        ChestnutLine y = Told.line(FOUR + "rider 0 4 1 30 99 0;rider 1 2 9 1 99 0;rider 2 3 9 1 99 0;rider 3 4 9 1 99 0;");
        Told.due("of several the least", y.rich(0, 0, 0, 0, false), 1);
        Told.due("by NONE nobody", y.rich(0, -1, 0, 0, false), -1);
        ChestnutLine six = Told.line("post 1 0 1;post 1 0 0;" + "rider 0 1 1 2 9 0;".repeat(5) + "rider 0 1 1 1 9 0;");
        Told.due("the last of six KEEPS 1", six.rich(0, 0, 0, 0, false), 5);
        ChestnutLine none = Told.line(FOUR);
        Told.due("without RIDERS", none.rich(0, 0, 0, 0, false), -1);
        ChestnutLine week = Edge.twoLines();
        Edge.row("RICH by weeks", w -> week.rich(1, 0, 0, w, false), 0, 0, 0, 0, -1, -1, -1, -1, -1, -1, -1);
    }

    private static void spare() {
        Doc.term(5, "SPARE: the POST without whose POUNDS the DELAY by that LAW is least, and less; of several the least.");
        Doc.promise(25, "or (spare) SPARE: the POST.", "(SPARE: no POST helps),");
        ChestnutLine x = Told.line("post 1 0 9;post 1 1 9;post 1 2 9;post 1 0 9;rider 0 3 60 1 99 0;");
        Told.due("the dearest", x.rich(0, 0, 0, 0, true), 2);
        Told.due("by NONE no POST helps", x.rich(0, -1, 0, 0, true), -1);
        Told.due("of several the least", Told.line(FOUR + "rider 1 4 60 1 99 0;").rich(0, 0, 0, 0, true), 1);
        // Room for one STOP alone: without POST 0 he pulls at POST 1, which costs as much; or more; or less.
        Told.due("as much", Told.line("post 1 0 9;post 1 0 9;post 1 0 0;rider 0 2 9 1 99 0;").rich(0, 0, 0, 0, true), -1);
        Told.due("more", Told.line("post 1 0 9;post 1 1 9;post 1 0 0;rider 0 2 9 1 99 0;").rich(0, 0, 0, 0, true), -1);
        Told.due("less", Told.line("post 1 1 9;post 1 0 9;post 1 0 0;rider 0 2 9 1 99 0;").rich(0, 0, 0, 0, true), 0);
        // POUNDS of the last POST are nothing to a RUN, nor are those that are eaten.
        Told.due("nobody STOPS", Told.line("post 1 0 0;post 1 0 9;rider 0 1 9 1 99 0;").rich(0, 0, 0, 0, true), -1);
        ChestnutLine week = Edge.twoLines();
        Edge.row("SPARE by weeks", w -> week.rich(1, 0, 0, w, true), 0, 0, 0, 0, -1, -1, -1, -1, -1, -1, -1);
        ChestnutLine last = Told.line("post 1 0 0;".repeat(14) + "post 1 0 9;post 1 0 9;rider 0 15 9 1 99 0;");
        Told.due("the last but one of 16", last.rich(0, 0, 0, 0, true), 14);
        Told.due("the LINE has its POUNDS", last.post(0, 14, 2), 9);
        // By ONE: without POST 0 he pulls at POST 1 alone, without POST 1 at POST 0 alone.
        ChestnutLine one = Told.line("post 1 1 9;post 1 0 9;post 1 0 0;rider 0 2 60 1 99 0;");
        Edge.row("SPARE by LAWS", law -> one.rich(0, law, 0, 0, true), -1, -1, 0, 0, 0, 0);
    }

    private static void richRefused() {
        Doc.promise(25, "or as run().");
        ChestnutLine x = Edge.twoLines();
        Edge.range("rich(.., 0, 0, 0, false)", line -> x.rich(line, 0, 0, 0, false), 0, 0, 1, 0, -1);
        Edge.range("rich(0, .., 0, 0, false)", law -> x.rich(0, law, 0, 0, false), -1, -1, 3, 0, -1);
        Edge.range("rich(0, 0, 0, .., false)", week -> x.rich(0, 0, 0, week, false), 0, 0, 9, -1, -1);
        Edge.range("rich(.., 0, 0, 0, true)", line -> x.rich(line, 0, 0, 0, true), 0, 1, 1, 0, -1);
        Edge.range("rich(0, .., 0, 0, true)", law -> x.rich(0, law, 0, 0, true), -1, -1, 3, 1, -1);
        Edge.range("rich(0, 0, 0, .., true)", week -> x.rich(0, 0, 0, week, true), 0, 1, 9, -1, -1);
        Edge.refused("rich, nothing told", line -> new ChestnutLine().rich(line, 0, 0, 0, false), -1, -1, 0, 1);
        Edge.refused("rich, nothing told", line -> new ChestnutLine().rich(line, 0, 0, 0, true), -1, -1, 0, 1);
    }

    // ---- VOTE ----

    private static void vote(String of, ChestnutLine x, int seed, int law, int many) {
        Told.due("VOTE" + of, x.vote(0, seed, 0, false), law);
        Told.due("how many are for it" + of, x.vote(0, seed, 0, true), many);
    }

    private static void votes() {
        Doc.term(6, "VOTE of a week by a SEED: each RIDER is for the LAW (0 .. 3) by which his GAIN is most, all pulling; of several"
            + " the least: the LAW that most are for; of several the least.");
        Doc.promise(30, "VOTE, or (many) how many RIDERS are for it.");
        String two = "post 1 0 9;post 1 0 9;post 1 0 0;";
        vote(" by ONE", Told.line(Told.SAMPLE), 0, 1, 2);
        vote(" of one", Told.line(two + "rider 0 2 60 1 99 0;"), 0, 0, 1);
        vote(" of six who never pull", Told.line(two + "rider 0 2 60 1 0 0;".repeat(6)), 0, 0, 6);
        // RIDER 0 is for FREE, RIDER 1 for ONE (SEED 0 draws RIDER 0 twice): of several LAWS the least.
        vote(" of two", Told.line(two + "rider 0 2 60 1 99 0;rider 0 2 60 1 99 0;"), 0, 0, 1);
        // RIDERS 0 and 1 are for FREE and ONE, RIDERS 2 and 3, each at one POST, for FARES; SEED 20 draws them too.
        ChestnutLine x = Told.line(two + "rider 0 2 60 1 99 0;rider 0 2 60 1 99 0;rider 0 1 60 1 99 9;rider 1 2 60 1 99 9;");
        Edge.row("SEED 9", post -> x.who(0, 2, 9, 0, post), 0, 0, 0);
        Edge.row("SEED 20", post -> x.who(0, 2, 20, 0, post), 0, 2, 3);
        vote(" by FARES", x, 9, 3, 2);
        vote(" by LOTS", x, 20, 2, 2);
        // One more who is for FREE, and it is as many: the least.
        ChestnutLine y = Told.line(two + "rider 0 2 60 1 99 0;rider 0 2 60 1 99 0;rider 0 1 60 1 99 9;rider 1 2 60 1 99 9;"
            + "rider 0 2 60 30 99 0;");
        vote(" of several the least", y, 9, 0, 2);
    }

    private static void votesRefused() {
        Doc.promise(30, "NONE: there are no RIDERS, or there is none such (of either).");
        ChestnutLine x = Edge.twoLines();
        Edge.range("vote(.., 0, 0, false)", line -> x.vote(line, 0, 0, false), 0, 1, 1, 0, -1);
        Edge.range("vote(0, 0, .., false)", week -> x.vote(0, 0, week, false), 0, 1, 9, 0, -1);
        Edge.range("vote(.., 0, 0, true)", line -> x.vote(line, 0, 0, true), 0, 2, 1, 1, -1);
        Edge.range("vote(0, 0, .., true)", week -> x.vote(0, 0, week, true), 0, 2, 9, 2, -1);
        for (int seed : new int[] {0, 1, -1, Integer.MIN_VALUE, Integer.MAX_VALUE}) {
            Told.due("vote by SEED " + seed, x.vote(0, seed, 0, false), 1);
        }
        ChestnutLine none = Told.line("post 1 0 1;post 1 0 1;");
        Told.due("no RIDERS", none.vote(0, 0, 0, false), -1);
        Told.due("no RIDERS, many", none.vote(0, 0, 0, true), -1);
        Edge.refused("vote, nothing told", line -> new ChestnutLine().vote(line, 0, 0, true), -1, -1, 0, 1);
    }

    // ---- BID, FIT, ROUSE ----

    private static void bids() {
        Doc.term(6, "BID of a RIDER: the FARE, 0 .. 9, by which he KEEPS most by FARES;", "of several the least.");
        Doc.promise(32, "What 0: BID, 1: FIT, 2: ROUSE.");
        for (int fare = 0; fare <= 9; fare++) {
            ChestnutLine x = Told.line("post 1 0 9;post 1 0 0;rider 0 1 9 1 99 " + fare + ";rider 0 1 9 1 99 " + fare + ";");
            Told.due("BID of the first against " + fare, x.bid(0, 0, 0, 0), fare);
            Told.due("BID of the second against " + fare, x.bid(0, 0, 1, 0), fare == 9 ? 0 : fare + 1);
            Told.due("the FARE that is told", x.rider(0, 1, 5), fare);
        }
        // By waiting till the other one is full he KEEPS 8 of 12 at POST 1, else 6 of 9 at POST 0.
        ChestnutLine y = Told.line("post 1 0 9;post 1 0 12;post 1 0 0;rider 0 2 12 1 99 9;rider 0 2 12 1 2 5;");
        Told.due("BID of who has PATIENCE", y.bid(0, 0, 0, 0), 0);
        ChestnutLine never = Told.line("post 1 0 9;post 1 0 0;rider 0 1 9 1 0 7;");
        Told.due("BID of who never pulls", never.bid(0, 0, 0, 0), 0);
    }

    private static void fits() {
        Doc.term(6, "FIT: the POCKET, 1 .. 60,", "by which he KEEPS most by FREE;");
        int[][] due = {{1, 1}, {2, 2}, {3, 2}, {4, 4}, {5, 5}, {6, 5}, {29, 29}, {30, 29}};
        for (int[] d : due) {
            ChestnutLine x = Told.line("post 1 0 " + d[0] + ";post 1 0 0;rider 0 1 60 1 99 0;");
            Told.due("FIT for " + d[0], x.bid(0, 0, 0, 1), d[1]);
            Told.due("the POCKET that is told", x.rider(0, 0, 2), 60);
        }
        // 25 and 30 and 5 of 30: 17 and 20 and 4, and with one less 3.
        ChestnutLine most = Told.line("post 1 0 25;post 1 0 30;post 1 0 30;post 1 0 0;rider 0 3 1 1 99 0;");
        Told.due("FIT of 60", most.bid(0, 0, 0, 1), 60);
        // 30 and 29 or 30 of 30; 1 of a third one would be more, but there is no POCKET of 61.
        ChestnutLine more = Told.line("post 1 0 30;post 1 0 30;post 1 0 30;post 1 0 0;rider 0 3 1 1 99 0;");
        Told.due("FIT of 59", more.bid(0, 0, 0, 1), 59);
        ChestnutLine never = Told.line("post 1 0 9;post 1 0 0;rider 0 1 9 1 0 7;");
        Told.due("FIT of who never pulls", never.bid(0, 0, 0, 1), 1);
    }

    private static void rouses() {
        Doc.term(6, "ROUSE: the PATIENCE, 0 .. 200, by which he KEEPS most by FREE; of several the least.");
        ChestnutLine x = Told.line(FOUR + "rider 0 4 60 1 0 0;");
        Told.due("ROUSE for four STOPS", x.bid(0, 0, 0, 2), 8);
        Told.due("the PATIENCE that is told", x.rider(0, 0, 4), 0);
        ChestnutLine never = Told.line("post 1 0 9;post 1 0 0;rider 0 1 9 10 0 7;");
        Told.due("ROUSE of who never pulls", never.bid(0, 0, 0, 2), 0);
        // RIDER 0 makes two STOPS of 74 (75): RIDER 1 needs 200 (201) for that of 52 (51) at POST 3.
        String posts = "post 30 0 0;post 30 3 9;post %d 3 9;post 1 3 9;post 1 0 0;halt %d;rider 1 3 60 1 200 0;rider 3 4 9 1 0 0;";
        Told.due("ROUSE of 200", Told.line(String.format(posts, 19, 8)).bid(0, 0, 1, 2), 200);
        Told.due("ROUSE of 201", Told.line(String.format(posts, 18, 9)).bid(0, 0, 1, 2), 0);
        // With more PATIENCE he takes 3 at POST 0 and has room for 9 of the 12 at POST 1, whose COST is less.
        ChestnutLine less = Told.line("post 1 2 3;post 1 0 12;post 1 0 0;rider 0 2 12 1 99 0;");
        Told.due("ROUSE of who KEEPS as much with less", less.bid(0, 0, 0, 2), 2);
        Told.due("by weeks", Edge.twoLines().bid(1, 3, 0, 2), 0);
    }

    private static void bidsRefused() {
        Doc.promise(32, "NONE: there is none such (of any), or for another what.");
        ChestnutLine x = Edge.twoLines();
        Edge.range("bid(.., 0, 0, 1)", line -> x.bid(line, 0, 0, 1), 0, 26, 1, 7, -1);
        Edge.range("bid(0, .., 0, 1)", week -> x.bid(0, week, 0, 1), 0, 26, 9, 1, -1);
        Edge.range("bid(0, 0, .., 1)", rider -> x.bid(0, 0, rider, 1), 0, 26, 1, 1, -1);
        Edge.range("bid(0, 0, 0, ..)", what -> x.bid(0, 0, 0, what), 0, 0, 2, 10, -1);
        ChestnutLine full = Told.line(Edge.fullText());
        Edge.range("bid of a full one", rider -> full.bid(0, 0, rider, 0), 0, 9, 5, 0, -1);
        ChestnutLine none = Told.line("post 1 0 1;post 1 0 1;");
        Edge.refused("bid without RIDERS", rider -> none.bid(0, 0, rider, 0), -1, -1, 0, 1);
        Edge.refused("bid, nothing told", line -> new ChestnutLine().bid(line, 0, 0, 0), -1, -1, 0, 1);
    }
}
