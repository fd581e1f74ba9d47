/** Of term 3 CHANCE, SLACK and MEAN, of term 5 PRINT; promises 15, 16 and 21. */
final class EdgesOfOdds {
    /* COSTS above 999 together: 15 and 14 times 75; 450 minutes of way. */
    private static final String DEAR = "post 30 3 0;".repeat(16) + "halt 9;station 0 0;station 15 0;";

    private EdgesOfOdds() {
    }

    static void all() {
        chances();
        leastTerms();
        means();
        chancesRefused();
        slacks();
        slacksRefused();
        prints();
        printsRefused();
    }

    private static String allOdds(int odds) {
        StringBuilder all = new StringBuilder();
        for (int post = 0; post < 15; post++) {
            all.append("odds ").append(post).append(' ').append(odds).append(';');
        }
        return all.toString();
    }

    private static void chance(String of, ChestnutLine x, int s, long over, long under) {
        Told.due("CHANCE of " + s + of, x.chance(0, s, false), over);
        Told.due("CHANCE of " + s + of + ", under", x.chance(0, s, true), under);
    }

    private static void chances() {
        Doc.term(3, "CHANCE of s: by ODDS of 10 each POST (not the last one) is a STOP, one by one, whatever else: how likely all COSTS"
            + " together are not above s:");
        Doc.promise(15, "CHANCE of s, 0 .. 999, N, or (under) D;");
        // COSTS 3 by 5 of 10, 19 by 2 of 10.
        ChestnutLine x = Told.line(Told.SAMPLE);
        int[][] due = {{0, 2, 5}, {1, 2, 5}, {2, 2, 5}, {3, 4, 5}, {4, 4, 5}, {18, 4, 5}, {19, 9, 10}, {21, 9, 10}, {22, 1, 1},
            {23, 1, 1}, {999, 1, 1}};
        for (int[] d : due) {
            chance("", x, d[0], d[1], d[2]);
        }
        // ODDS of the last POST are nothing; RIDERS, POUNDS and WAITS are not asked.
        ChestnutLine y = Told.line("post 1 0 0;post 1 0 9;odds 1 10;");
        chance(" without ODDS", y, 0, 1, 1);
        ChestnutLine z = Told.line("post 1 0 0;post 1 0 9;odds 0 10;");
        chance(" of a sure STOP", z, 1, 0, 1);
        chance(" of a sure STOP", z, 2, 1, 1);
        ChestnutLine just = Told.line(Edge.JUST_999 + allOdds(10));
        chance(" of sure 999", just, 998, 0, 1);
        chance(" of sure 999", just, 999, 1, 1);
        // LINES one by one: what was found of a STOP that costs 1 is nothing to the other one.
        ChestnutLine two = Told.line("post 1 0 0;post 1 0 0;halt 1;odds 0 5;");
        Told.text(two, 0, -1, "post 1 0 0;post 1 0 0;halt 1;odds 0 4;");
        Edge.row("CHANCE of 0", line -> two.chance(line, 0, false), 0, 1, 3);
        Edge.row("CHANCE of 0, under", line -> two.chance(line, 0, true), 0, 2, 5);
        Edge.row("CHANCE of 1", line -> two.chance(line, 1, true), 0, 1, 1);
        Told.text(two, 0, 1, "post 1 0 0;post 1 0 0;halt 9;odds 0 5;");
        Edge.row("CHANCE of 0", line -> two.chance(line, 0, true), 0, 2, 2);
        Edge.row("CHANCE of 1", line -> two.chance(line, 1, true), 0, 1, 2);
    }

    private static void leastTerms() {
        Doc.term(3, "a fraction in least terms.");
        for (int odds = 0; odds <= 10; odds++) {
            ChestnutLine x = Told.line("post 1 0 0;post 1 0 9;odds 0 " + odds + ";");
            long[] over = {1, 9, 4, 7, 3, 1, 2, 3, 1, 1, 0};
            long[] under = {1, 10, 5, 10, 5, 2, 5, 10, 5, 10, 1};
            chance(" with ODDS " + odds, x, 0, over[odds], under[odds]);
        }
        ChestnutLine seven = Told.line(DEAR + allOdds(7));
        chance(" of fifteen", seven, 0, 14348907L, 1000000000000000L);
        chance(" of fifteen", seven, 14, 14348907L, 1000000000000000L);
        // POST 0 may be a STOP or not: 3 to the power of 14, of 10 to that power.
        chance(" of fifteen", seven, 15, 4782969L, 100000000000000L);
        ChestnutLine nine = Told.line(DEAR + allOdds(9));
        chance(" of fifteen by 9", nine, 0, 1L, 1000000000000000L);
        // All but those with 14 or more STOPS of 75: 1 less 9 to the power of 14, of 10 to that power.
        chance(" of fifteen by 9", nine, 999, 100000000000000L - 22876792454961L, 100000000000000L);
        ChestnutLine half = Told.line(DEAR + allOdds(5));
        chance(" of fifteen by 5", half, 0, 1L, 32768L);
        chance(" of fifteen by 5", half, 999, 16383L, 16384L);
        ChestnutLine sure = Told.line(DEAR + allOdds(10));
        chance(" of fifteen by 10", sure, 999, 0L, 1L);
    }

    private static void means() {
        Doc.term(3, "MEAN: COSTS to be expected.");
        Doc.promise(15, "MEAN (s NONE), likewise.");
        chance(", MEAN", Told.line(Told.SAMPLE), -1, 53, 10);
        chance(", MEAN without ODDS", Told.line("post 1 0 0;post 1 0 9;odds 1 10;"), -1, 0, 1);
        chance(", MEAN of a sure STOP", Told.line("post 1 0 0;post 1 0 9;odds 0 10;"), -1, 2, 1);
        chance(", MEAN of a half", Told.line("post 1 0 0;post 1 0 9;odds 0 5;"), -1, 1, 1);
        chance(", MEAN of 1 of 10", Told.line("post 1 0 0;post 1 0 9;odds 0 1;"), -1, 1, 5);
        chance(", MEAN of all", Told.line(DEAR + allOdds(10)), -1, 1065, 1);
        chance(", MEAN of 9 of 10", Told.line(DEAR + allOdds(9)), -1, 1917, 2);
    }

    private static void chancesRefused() {
        Doc.promise(15, "NONE: there is none such, or another s.");
        ChestnutLine x = Edge.twoLines();
        Edge.range("chance(.., 3, false)", line -> x.chance(line, 3, false), 0, 4, 1, 0, -1);
        Edge.range("chance(.., 3, true)", line -> x.chance(line, 3, true), 0, 5, 1, 1, -1);
        Edge.range("chance(.., NONE, true)", line -> x.chance(line, -1, true), 0, 10, 1, 1, -1);
        Edge.range("chance(0, .., false)", s -> x.chance(0, s, false), -1, 53, 999, 1, -1);
        Edge.range("chance(0, .., true)", s -> x.chance(0, s, true), -1, 10, 999, 1, -1);
        Told.due("chance(0, 0, false)", x.chance(0, 0, false), 2);
        ChestnutLine nothing = new ChestnutLine();
        Edge.refused("chance, nothing told", s -> nothing.chance(0, s, false), -1, -2, -1, 0, 999, 1000);
        Edge.refused("chance, nothing told", s -> nothing.chance(0, s, true), -1, -2, -1, 0, 999, 1000);
    }

    private static void slacks() {
        Doc.term(3, "SLACK of q: the least s by which CHANCE is q hundredths at least.");
        ChestnutLine x = Told.line(Told.SAMPLE);
        int[][] due = {{0, 0}, {1, 0}, {39, 0}, {40, 0}, {41, 3}, {79, 3}, {80, 3}, {81, 19}, {89, 19}, {90, 19}, {91, 22}, {99, 22},
            {100, 22}};
        for (int[] d : due) {
            Told.due("SLACK of " + d[0], x.slack(0, d[0]), d[1]);
        }
        ChestnutLine sure = Told.line("post 1 0 0;post 1 0 9;odds 0 10;");
        Edge.row("SLACK of a sure STOP", q -> sure.slack(0, q), 0, 0, 2);
        Told.due("SLACK of 100", sure.slack(0, 100), 2);
        ChestnutLine none = Told.line("post 1 0 0;post 1 0 9;odds 1 10;");
        Told.due("SLACK without ODDS", none.slack(0, 100), 0);
        // CHANCE of 0 is 3 to the power of 15 of 10 to that: not 1 hundredth; of 100 hundredths all COSTS.
        ChestnutLine seven = Told.line(DEAR + allOdds(7));
        Told.due("SLACK of 100 hundredths", seven.slack(0, 100), 1065);
        Told.due("SLACK of a sure 1065", Told.line(DEAR + allOdds(10)).slack(0, 1), 1065);
        Told.due("SLACK of a sure 999", Told.line(Edge.JUST_999 + allOdds(10)).slack(0, 1), 999);
        // CHANCE of 0 is just 81 of 100, that of 2 just 99.
        ChestnutLine two = Told.line("post 1 0 0;post 1 0 0;post 1 0 0;odds 0 1;odds 1 1;");
        Edge.row("SLACK about 81 and 99 of 100", q -> two.slack(0, q), 80, 0, 0, 2);
        Edge.row("SLACK about 81 and 99 of 100", q -> two.slack(0, q), 98, 2, 2, 4);
    }

    private static void slacksRefused() {
        Doc.promise(16, "SLACK of q, 0 .. 100.", "NONE: there is none such, or another q.");
        ChestnutLine x = Edge.twoLines();
        Edge.range("slack(.., 100)", line -> x.slack(line, 100), 0, 22, 1, 4, -1);
        Edge.range("slack(0, ..)", q -> x.slack(0, q), 0, 0, 100, 22, -1);
        Edge.refused("slack, nothing told", q -> new ChestnutLine().slack(0, q), -1, -1, 0, 100);
    }

    private static void prints() {
        Doc.term(5, "PRINT of a STATION by q: the least MINUTE by which it is q hundredths likely at least, by ODDS of POSTS ahead of"
            + " it, that the train is there (WAITS are none).");
        ChestnutLine x = Told.line(Told.SAMPLE);
        int[][] due = {{0, 1, 0}, {0, 100, 0}, {2, 1, 9}, {2, 40, 9}, {2, 41, 12}, {2, 80, 12}, {2, 81, 28}, {2, 90, 28}, {2, 91, 31},
            {2, 100, 31}, {4, 40, 22}, {4, 41, 25}, {4, 100, 44}};
        for (int[] d : due) {
            Told.due("PRINT of " + d[0] + " by " + d[1], x.print(0, d[0], d[1]), d[2]);
        }
        // By no hundredths nothing is asked of the train: the least MINUTE that there is.
        Edge.row("PRINT by 0", post -> x.print(0, post, 0), 0, 0, -1, 0, -1, 0);
        // ODDS of the STATION itself and of those further on are not asked.
        ChestnutLine y = Told.line("post 5 0 0;post 5 0 0;post 5 0 0;station 1 0;station 2 0;odds 1 10;odds 2 10;");
        Told.due("PRINT of POST 1", y.print(0, 1, 100), 5);
        Told.due("PRINT of POST 2", y.print(0, 2, 1), 12);
        ChestnutLine sure = Told.line(DEAR + allOdds(10));
        Told.due("PRINT of the last of 16", sure.print(0, 15, 100), 1515);
        Told.due("PRINT of the first of 16", sure.print(0, 0, 100), 0);
        // What the printed MINUTE is now, and the OTHER train, are not asked.
        Told.due("printed at 12", x.post(0, 2, 4), 12);
        Told.due("with WAITS it is there at 31", x.meet(0, 0, 0, 0, 102), 31);
    }

    private static void printsRefused() {
        Doc.promise(21, "PRINT of a POST by q, 0 .. 100.", "NONE: it is no STATION, there is none such (of any), or another q.");
        ChestnutLine x = Edge.twoLines();
        Edge.range("print(.., 0, 100)", line -> x.print(line, 0, 100), 0, 0, 1, 0, -1);
        Edge.range("print(0, .., 100)", post -> x.print(0, post, 100), 0, 0, 4, 44, -1);
        Edge.range("print(1, .., 100)", post -> x.print(1, post, 100), 0, 0, 1, 6, -1);
        Edge.range("print(0, 4, ..)", q -> x.print(0, 4, q), 0, 0, 100, 44, -1);
        Edge.refused("print of POSTS that are none", post -> x.print(0, post, 50), -1, 1, 3);
        Edge.refused("print of POSTS that are none, by 0", post -> x.print(0, post, 0), -1, 1, 3, 5, -1);
        Edge.refused("print, nothing told", q -> new ChestnutLine().print(0, 0, q), -1, -1, 0, 100);
    }
}
