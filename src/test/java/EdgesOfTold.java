/** Promises 6, 7, 8, 19, 27: what the texts told, asked on both sides of each bound. */
final class EdgesOfTold {
    private EdgesOfTold() {
    }

    static void all() {
        lines();
        posts();
        postsWithoutAnything();
        riders();
        pulls();
        seenOnes();
        refusedQuestions();
    }

    private static void lines() {
        Doc.promise(6, "Of a LINE, what 0: POSTS, 1: RIDERS, 2: HALT, 3: EAT, 4: GRACE, 5: the BISHOP's temper, 6: the OTHER"
            + " train's MINUTE (NONE), 7: STATIONS (bits).");
        ChestnutLine x = Edge.twoLines();
        Edge.row("line(0, ..)", what -> x.line(0, what), 0, 5, 2, 3, 1, 2, 2, 20, 0b10101);
        Edge.row("line(1, ..)", what -> x.line(1, what), 0, 2, 1, 2, 2, 0, 1, 3, 0b11);
        ChestnutLine full = Told.line(Edge.fullText());
        Edge.row("line of a full one", what -> full.line(0, what), 0, 16, 6, 1, 0, 0, 0, 0, 65535);
        ChestnutLine last = Told.line("post 1 0 0;".repeat(16) + "station 15 999;");
        Told.due("the last POST's bit", last.line(0, 7), 32768);
        Told.due("no OTHER train", last.line(0, 6), -1);
        Doc.promise(6, "-2: there is none such, or for another what.");
        Edge.range("line(.., 0)", line -> x.line(line, 0), 0, 5, 1, 2, -2);
        Edge.range("line(0, ..)", what -> x.line(0, what), 0, 5, 7, 21, -2);
        Edge.range("line(.., 0), one told", line -> full.line(line, 0), 0, 16, 0, 16, -2);
        Edge.refused("line(.., 0), none told", line -> new ChestnutLine().line(line, 0), -2, -1, 0, 1, 2);
    }

    private static void posts() {
        Doc.promise(7, "Of a POST, what 0: MINUTES, 1: GRADE, 2: POUNDS, 3: ODDS, 4: the printed MINUTE (NONE: no STATION), 5:"
            + " COST (NONE of the last one), 10 + w: POUNDS in week w.");
        ChestnutLine x = Edge.twoLines();
        Edge.row("post(0, 0, ..)", what -> x.post(0, 0, what), 0, 5, 0, 9, 5, 0, 3);
        Edge.row("post(0, 1, ..)", what -> x.post(0, 1, what), 0, 4, 3, 6, 2, -1, 19);
        Edge.row("post(0, 4, ..)", what -> x.post(0, 4, what), 0, 1, 0, 5, 0, 25, -1);
        Edge.row("post(1, 0, ..)", what -> x.post(1, 0, what), 0, 2, 1, 7, 10, 5, 4);
        Edge.row("post(1, 1, ..)", what -> x.post(1, 1, what), 0, 3, 0, 4, 0, 1, -1);
        Edge.row("post(1, 0, 10 + ..)", what -> x.post(1, 0, what), 10, 7, 5, 3, 1, 0, 0, 0, 0, 0, 0);
        Edge.row("post(0, 4, 10 + ..)", what -> x.post(0, 4, what), 10, 5, 4, 3, 2, 1, 0, 0, 0, 0, 0);
        ChestnutLine full = Told.line(Edge.fullText());
        Told.due("COST of POST 14", full.post(0, 14, 5), 1);
        Told.due("COST of POST 15", full.post(0, 15, 5), -1);
        Doc.promise(7, "-2: there is none such (of either), or for another what.");
        Edge.range("post(.., 0, 0)", line -> x.post(line, 0, 0), 0, 5, 1, 2, -2);
        Edge.range("post(0, .., 0)", post -> x.post(0, post, 0), 0, 5, 4, 1, -2);
        Edge.range("post(1, .., 0)", post -> x.post(1, post, 0), 0, 2, 1, 3, -2);
        Edge.range("post of a full one", post -> full.post(0, post, 0), 0, 1, 15, 1, -2);
        Edge.refused("post(0, 0, ..)", what -> x.post(0, 0, what), -2, -1, 6, 7, 8, 9, 20, 21, 110, 1 << 16, 10 + (1 << 16),
            Integer.MIN_VALUE, Integer.MAX_VALUE);
        // A POST that is not there has no printed MINUTE or COST of NONE.
        Edge.refused("post(0, 5, ..)", what -> x.post(0, 5, what), -2, 0, 4, 5, 10, 19);
        Edge.refused("post(.., 0, 5), none told", line -> new ChestnutLine().post(line, 0, 5), -2, -1, 0, 1);
    }

    private static void postsWithoutAnything() {
        Doc.promise(7, "4: the printed MINUTE (NONE: no STATION)", "10 + w: POUNDS in week w.");
        ChestnutLine x = Told.line("post 1 0 0;post 1 0 30;station 0 0;eat 9;");
        Told.due("a printed MINUTE of 0", x.post(0, 0, 4), 0);
        Told.due("none printed", x.post(0, 1, 4), -1);
        Edge.row("no POUNDS", what -> x.post(0, 0, what), 10, 0, 0, 0, 0, 0, 0, 0, 0, 0, 0);
        Edge.row("30 less 9 a week", what -> x.post(0, 1, what), 10, 30, 21, 12, 3, 0, 0, 0, 0, 0, 0);
    }

    private static void riders() {
        Doc.promise(8, "Of a RIDER, what 0: on, 1: off, 2: POCKET, 3: WISH, 4: PATIENCE, 5: FARE.");
        ChestnutLine x = Edge.twoLines();
        Edge.row("rider(0, 0, ..)", what -> x.rider(0, 0, what), 0, 0, 4, 10, 6, 40, 1);
        Edge.row("rider(0, 1, ..)", what -> x.rider(0, 1, what), 0, 1, 3, 20, 3, 15, 5);
        Edge.row("rider(1, 0, ..)", what -> x.rider(1, 0, what), 0, 0, 1, 6, 2, 9, 3);
        Doc.promise(8, "NONE: there is none such (of either), or for another what.");
        Edge.range("rider(.., 0, 1)", line -> x.rider(line, 0, 1), 0, 4, 1, 1, -1);
        Edge.range("rider(0, .., 1)", rider -> x.rider(0, rider, 1), 0, 4, 1, 3, -1);
        Edge.range("rider(1, .., 1)", rider -> x.rider(1, rider, 1), 0, 1, 0, 1, -1);
        Edge.range("rider(0, 1, ..)", what -> x.rider(0, 1, what), 0, 1, 5, 5, -1);
        ChestnutLine full = Told.line(Edge.fullText());
        Edge.range("rider of a full one", rider -> full.rider(0, rider, 1), 0, 15, 5, 15, -1);
        ChestnutLine none = Told.line("post 1 0 0;post 1 0 0;");
        Edge.refused("rider without RIDERS", rider -> none.rider(0, rider, 0), -1, -1, 0, 1, 5);
        Edge.refused("rider, none told", line -> new ChestnutLine().rider(line, 0, 0), -1, -1, 0, 1);
    }

    private static void pulls() {
        Doc.promise(19, "How many PULLS a PLAN has (k NONE, what 0); of PULL k, what 0: POST, 1: RIDER.");
        ChestnutLine x = new ChestnutLine();
        Edge.refused("pull, none told", plan -> x.pull(plan, -1, 0), -2, -1, 0, 1, 2);
        Told.text(x, 1, -1, "pull 7 1;pull 8 2;pull 9 5;");
        Edge.refused("pull, one told", plan -> x.pull(plan, -1, 0), -2, -1, 1, 2);
        Told.text(x, 1, -1, "");
        Edge.row("pull(0, .., 0)", k -> x.pull(0, k, 0), -1, 3, 7, 8, 9);
        Edge.row("pull(0, .., 1)", k -> x.pull(0, k, 1), 0, 1, 2, 5);
        Told.due("pull(1, NONE, 0) of an empty one", x.pull(1, -1, 0), 0);
        Doc.promise(19, "-2: there is none such (of either), or for another what.");
        Edge.range("pull(.., NONE, 0)", plan -> x.pull(plan, -1, 0), 0, 3, 1, 0, -2);
        Edge.range("pull(0, .., 0)", k -> x.pull(0, k, 0), -1, 3, 2, 9, -2);
        Edge.range("pull(0, .., 1)", k -> x.pull(0, k, 1), 0, 1, 2, 5, -2);
        Edge.range("pull(0, 2, ..)", what -> x.pull(0, 2, what), 0, 9, 1, 5, -2);
        Edge.range("pull(0, NONE, ..)", what -> x.pull(0, -1, what), 0, 3, 0, 3, -2);
        Edge.refused("pull(1, .., 0) of an empty one", k -> x.pull(1, k, 0), -2, -2, 0, 1, 15);
        Told.text(x, 1, 1, "pull 1 2;".repeat(16));
        Edge.range("pull of a full one", k -> x.pull(1, k, 1), 0, 2, 15, 2, -2);
    }

    private static void seenOnes() {
        Doc.promise(27, "How many SEEN ones a LOG has (k NONE, what 0); of the k-th, what 0: POST, 1: MINUTE.");
        ChestnutLine x = new ChestnutLine();
        Edge.refused("seen, none told", log -> x.seen(log, -1, 0), -2, -1, 0, 1, 2);
        Told.text(x, 2, -1, "seen 7 100;seen 8 0;seen 9 999;");
        Edge.refused("seen, one told", log -> x.seen(log, -1, 0), -2, -1, 1, 2);
        Told.text(x, 2, -1, "");
        Edge.row("seen(0, .., 0)", k -> x.seen(0, k, 0), -1, 3, 7, 8, 9);
        Edge.row("seen(0, .., 1)", k -> x.seen(0, k, 1), 0, 100, 0, 999);
        Told.due("seen(1, NONE, 0) of an empty one", x.seen(1, -1, 0), 0);
        Doc.promise(27, "-2: there is none such (of either), or for another what.");
        Edge.range("seen(.., NONE, 0)", log -> x.seen(log, -1, 0), 0, 3, 1, 0, -2);
        Edge.range("seen(0, .., 0)", k -> x.seen(0, k, 0), -1, 3, 2, 9, -2);
        Edge.range("seen(0, .., 1)", k -> x.seen(0, k, 1), 0, 100, 2, 999, -2);
        Edge.range("seen(0, 2, ..)", what -> x.seen(0, 2, what), 0, 9, 1, 999, -2);
        Edge.range("seen(0, NONE, ..)", what -> x.seen(0, -1, what), 0, 3, 0, 3, -2);
        Edge.refused("seen(1, .., 0) of an empty one", k -> x.seen(1, k, 0), -2, -2, 0, 1, 9);
        Told.text(x, 2, 1, "seen 1 2;".repeat(10));
        Edge.range("seen of a full one", k -> x.seen(1, k, 1), 0, 2, 9, 2, -2);
        // PLANS and LOGS are apart.
        Told.due("no PLAN by a LOG", x.pull(0, -1, 0), -2);
    }

    /** Questions that are refused leave all that is told as it was. */
    private static void refusedQuestions() {
        Told.about("behind refused questions");
        ChestnutLine x = Edge.twoLines();
        Told.text(x, 1, -1, "pull 1 2;pull 3 4;");
        Told.text(x, 2, -1, "seen 5 66;");
        Told.text(x, 0, -1, "halt 1;?");
        Told.text(x, 0, 0, "halt 10;");
        Told.feed(x, "pull 9 0;");
        long before = allTold(x);
        for (int none : new int[] {-3, 10, Integer.MIN_VALUE, Integer.MAX_VALUE}) {
            Told.due("line", x.line(none, none) + x.line(0, 1000 + none % 1000), -4);
            Told.due("post, rider", x.post(0, none, 0) + x.rider(0, none, 0), -3);
            Told.due("run, who, late", x.run(0, 0, none, none, 0) + x.who(0, none, 0, 0, 0) + x.late(0, 0, 0, none, 0), -5);
            Told.due("purse, rest", x.purse(0, 0, 0, none) + x.rest(none, 0, 0), -3);
            Told.due("gain", x.gain(0, 0, 0, none), -1000000);
            Told.due("chance, slack", x.chance(none, 0, true) + x.slack(none, 0), -2);
            Told.due("shells, meet", x.shells(0, 0, 0, 0, none) + x.meet(none, 0, 0, 0, 0), -3);
            Told.due("pull, played, print", x.pull(0, none, 0) + x.played(0, none, 0, 0) + x.print(0, none, 50), -5);
            Told.due("most, weeks, calm", x.most(none, 0, 0, true) + x.weeks(0, none, 0, true) + x.calm(none, 0, 0), -3);
            Told.due("rich, lots", x.rich(0, none, 0, 0, true) + x.lots(none, 0, 0, 1, 0), -2);
            Told.due("seen, hold, risk", x.seen(0, none, 0) + x.hold(0, none, 0) + x.risk(0, none), -5);
            Told.due("vote, left, bid", x.vote(none, 0, 0, true) + x.left(none, 0, 0, 0, 0) + x.bid(0, 0, none, 0), -4);
            Told.due("count, fault", x.count(none) + x.fault(none), -3);
        }
        Told.due("all that is told", allTold(x), before);
        Edge.row("the FAULT", x::fault, 0, 2, 5);
        Told.due("the tape", x.end(10), -1);
        Told.due("the tape's text", x.text(1, -1), 1);
        Told.due("its POST", x.pull(1, 0, 0), 9);
    }

    private static long allTold(ChestnutLine x) {
        long sum = 0;
        for (int line = 0; line < 2; line++) {
            for (int what = 0; what < 8; what++) {
                sum = sum * 31 + x.line(line, what);
            }
            for (int i = 0; i < 5; i++) {
                for (int what = 0; what < 6; what++) {
                    sum = sum * 31 + x.post(line, i, what) + 17L * x.rider(line, i, what);
                }
            }
            sum = sum * 31 + x.pull(0, line, 0) + 7L * x.pull(0, line, 1) + 17L * x.seen(0, 0, line);
        }
        return sum;
    }
}
