/** Promises 6 to 32 on the document's line, with numbers worked out by hand. */
public final class SampleTest {
    /* As the sample, but the OTHER train starts at minute 12. */
    private static final String EARLIER = Told.SAMPLE.replace("other 20;", "other 12;");

    public static void main(String[] args) {
        told(sample());
        freeRun(sample());
        otherLaws(sample());
        plan(sample());
        purses(sample());
        odds(sample());
        shells(sample());
        meetings(sample());
        logs(sample());
        riders(sample());
        fullLine();
        Told.finish();
    }

    private static ChestnutLine sample() {
        ChestnutLine x = Told.line(Told.SAMPLE);
        Told.due("text", Told.text(x, 0, -1, EARLIER), 1);
        Told.due("text", Told.text(x, 1, -1, "pull 0 0;pull 1 1;pull 3 1;"), 0);
        Told.due("text", Told.text(x, 2, -1, "seen 2 31;seen 4 44;"), 0);
        Told.due("text", Told.text(x, 2, -1, "seen 1 8;"), 1);
        return x;
    }

    private static void told(ChestnutLine x) {
        int[] ofLine = {5, 2, 3, 1, 2, 2, 20, 0b10101};
        for (int what = 0; what < ofLine.length; what++) {
            Told.due("line(0, " + what + ")", x.line(0, what), ofLine[what]);
        }
        Told.due("line(0, 8)", x.line(0, 8), -2);
        Told.due("line(0, -1)", x.line(0, -1), -2);
        Told.due("line(2, 0)", x.line(2, 0), -2);
        Told.due("line(-1, 0)", x.line(-1, 0), -2);
        int[][] ofPosts = {{5, 0, 9, 5, 0, 3}, {4, 3, 6, 2, -1, 19}, {6, 1, 0, 0, 12, 5}, {7, 2, 12, 0, -1, 7},
            {1, 0, 5, 0, 25, -1}};
        for (int post = 0; post < 5; post++) {
            for (int what = 0; what < 6; what++) {
                Told.due("post(0, " + post + ", " + what + ")", x.post(0, post, what), ofPosts[post][what]);
            }
            for (int week = 0; week < 10; week++) {
                int left = Math.max(0, ofPosts[post][2] - week);
                Told.due("post(0, " + post + ", 10 + " + week + ")", x.post(0, post, 10 + week), left);
            }
        }
        Told.due("post(0, 0, 6)", x.post(0, 0, 6), -2);
        Told.due("post(0, 0, 9)", x.post(0, 0, 9), -2);
        Told.due("post(0, 0, 20)", x.post(0, 0, 20), -2);
        Told.due("post(0, 0, -1)", x.post(0, 0, -1), -2);
        Told.due("post(0, 5, 0)", x.post(0, 5, 0), -2);
        Told.due("post(0, -1, 0)", x.post(0, -1, 0), -2);
        Told.due("post(2, 0, 0)", x.post(2, 0, 0), -2);
        int[][] ofRiders = {{0, 4, 10, 6, 40, 1}, {1, 3, 20, 3, 15, 5}};
        for (int rider = 0; rider < 2; rider++) {
            for (int what = 0; what < 6; what++) {
                Told.due("rider(0, " + rider + ", " + what + ")", x.rider(0, rider, what), ofRiders[rider][what]);
            }
        }
        Told.due("rider(0, 2, 0)", x.rider(0, 2, 0), -1);
        Told.due("rider(0, -1, 0)", x.rider(0, -1, 0), -1);
        Told.due("rider(0, 0, 6)", x.rider(0, 0, 6), -1);
        Told.due("rider(0, 0, -1)", x.rider(0, 0, -1), -1);
        Told.due("rider(2, 0, 0)", x.rider(2, 0, 0), -1);
    }

    /* RIDER 0 takes 9 of 9 at POST 0 (6 kept), then the 1 that he has room for at POST 1. */
    private static void freeRun(ChestnutLine x) {
        int[] whats = {44, 10, 2, 22, 3, 34, 1, 3};
        for (int what = 0; what < whats.length; what++) {
            Told.due("run(0, 0, 7, 0, " + what + ")", x.run(0, 0, 7, 0, what), whats[what]);
        }
        int[] arrivals = {0, 8, 31, 37, 44};
        int[] pullers = {0, 0, -1, -1, -1};
        int[] lates = {0, -1, 19, -1, 19};
        int[] left = {0, 5, 0, 12, 5};
        for (int post = 0; post < 5; post++) {
            Told.due("run(.., 100 + " + post + ")", x.run(0, 0, 7, 0, 100 + post), arrivals[post]);
            Told.due("who(.., " + post + ")", x.who(0, 0, 7, 0, post), pullers[post]);
            Told.due("late(.., " + post + ")", x.late(0, 0, 7, 0, post), lates[post]);
            Told.due("left(.., " + post + ")", x.left(0, 0, 7, 0, post), left[post]);
        }
        Told.due("left(.., NONE)", x.left(0, 0, 7, 0, -1), 22);
        Told.due("run(.., 200)", x.run(0, 0, 7, 0, 200), 7);
        Told.due("run(.., 201)", x.run(0, 0, 7, 0, 201), 0);
        int[] wrong = {-1, 8, 99, 105, 199, 202, Integer.MIN_VALUE, Integer.MAX_VALUE};
        for (int what : wrong) {
            Told.due("run(.., " + what + ")", x.run(0, 0, 7, 0, what), -2);
        }
        int[][] none = {{2, 0, 0}, {-1, 0, 0}, {0, 4, 0}, {0, -2, 0}, {0, 0, 10}, {0, 0, -1}};
        for (int[] n : none) {
            String of = n[0] + ", " + n[1] + ", 7, " + n[2];
            Told.due("run(" + of + ", 0)", x.run(n[0], n[1], 7, n[2], 0), -2);
            Told.due("who(" + of + ", 0)", x.who(n[0], n[1], 7, n[2], 0), -2);
            Told.due("late(" + of + ", 0)", x.late(n[0], n[1], 7, n[2], 0), -1);
            Told.due("left(" + of + ", 0)", x.left(n[0], n[1], 7, n[2], 0), -2);
            Told.due("left(" + of + ", NONE)", x.left(n[0], n[1], 7, n[2], -1), -2);
            Told.due("meet(" + of + ", 0)", x.meet(n[0], n[1], 7, n[2], 0), -2);
            Told.due("rich(" + of + ", false)", x.rich(n[0], n[1], 7, n[2], false), -1);
            Told.due("rich(" + of + ", true)", x.rich(n[0], n[1], 7, n[2], true), -1);
        }
        Told.due("who(.., 5)", x.who(0, 0, 7, 0, 5), -2);
        Told.due("who(.., -1)", x.who(0, 0, 7, 0, -1), -2);
        Told.due("late(.., 5)", x.late(0, 0, 7, 0, 5), -1);
        Told.due("late(.., -1)", x.late(0, 0, 7, 0, -1), -1);
        Told.due("left(.., 5)", x.left(0, 0, 7, 0, 5), -2);
        Told.due("left(.., -2)", x.left(0, 0, 7, 0, -2), -2);
    }

    private static void otherLaws(ChestnutLine x) {
        int[] nobody = {22, 0, 0, 0, 0, 0, -1, 0};
        for (int what = 0; what < nobody.length; what++) {
            Told.due("run(0, NONE, 7, 0, " + what + ")", x.run(0, -1, 7, 0, what), nobody[what]);
        }
        // ONE: RIDER 0 pulls at POST 0, and at POST 1 only he would want.
        Told.due("run(0, 1, .., 7)", x.run(0, 1, 7, 0, 7), 1);
        Told.due("run(0, 1, .., 6)", x.run(0, 1, 7, 0, 6), -1);
        // LOTS and FARES: one wants at each POST, so it is as FREE.
        Told.due("run(0, 2, .., 7)", x.run(0, 2, 7, 0, 7), 3);
        Told.due("run(0, 3, .., 7)", x.run(0, 3, 7, 0, 7), 3);
        // Week 4: POUNDS 5, 2, 0, 8, 1: RIDER 0 wants at POST 3 alone.
        Told.due("run(0, 0, 7, 4, 7)", x.run(0, 0, 7, 4, 7), 8);
        Told.due("run(0, 0, 7, 4, 1)", x.run(0, 0, 7, 4, 1), 8);
        Told.due("run(0, 0, 7, 4, 200)", x.run(0, 0, 7, 4, 200), 6);
        // By weeks RIDER 0 gathers 10, 10, 10, 10, 8, 7, 6, 0, 0, 0.
        Told.due("weeks(0, 0, 7, true)", x.weeks(0, 0, 7, true), 61);
        Told.due("weeks(0, 0, 7, false)", x.weeks(0, 0, 7, false), 0);
        Told.due("weeks(0, 1, 7, false)", x.weeks(0, 1, 7, false), 0);
        Told.due("weeks(0, -1, 7, true)", x.weeks(0, -1, 7, true), -1);
        Told.due("weeks(0, 4, 7, true)", x.weeks(0, 4, 7, true), -1);
        Told.due("weeks(2, 0, 7, true)", x.weeks(2, 0, 7, true), -1);
        Told.due("most(0, 7, 0, false)", x.most(0, 7, 0, false), 0);
        Told.due("most(0, 7, 0, true)", x.most(0, 7, 0, true), 1);
        Told.due("most(0, 7, 9, true)", x.most(0, 7, 9, true), 0);
        Told.due("most(0, 7, 10, true)", x.most(0, 7, 10, true), -1);
        Told.due("most(2, 7, 0, true)", x.most(2, 7, 0, true), -1);
        Told.due("lots(0, 0, 7, 20, 0)", x.lots(0, 0, 7, 20, 0), 200);
        Told.due("lots(0, 0, 7, 20, 1)", x.lots(0, 0, 7, 20, 1), 440);
        Told.due("lots(0, 0, 7, 20, 2)", x.lots(0, 0, 7, 20, 2), 20);
        Told.due("lots(0, 0, 7, 0, 0)", x.lots(0, 0, 7, 0, 0), -1);
        Told.due("lots(0, 0, 7, 21, 0)", x.lots(0, 0, 7, 21, 0), -1);
        Told.due("lots(0, 0, 7, 1, 3)", x.lots(0, 0, 7, 1, 3), -1);
        Told.due("lots(0, 10, 7, 1, 0)", x.lots(0, 10, 7, 1, 0), -1);
        Told.due("lots(2, 0, 7, 1, 0)", x.lots(2, 0, 7, 1, 0), -1);
    }

    private static void plan(ChestnutLine x) {
        Told.due("pull(0, NONE, 0)", x.pull(0, -1, 0), 3);
        Told.due("pull(0, NONE, 1)", x.pull(0, -1, 1), -2);
        Told.due("pull(0, 2, 0)", x.pull(0, 2, 0), 3);
        Told.due("pull(0, 2, 1)", x.pull(0, 2, 1), 1);
        Told.due("pull(0, 2, 2)", x.pull(0, 2, 2), -2);
        Told.due("pull(0, 3, 0)", x.pull(0, 3, 0), -2);
        Told.due("pull(0, -2, 0)", x.pull(0, -2, 0), -2);
        Told.due("pull(1, 0, 0)", x.pull(1, 0, 0), -2);
        // RIDER 1 has got off at POST 3.
        int[] whats = {2, 15, 22, 34, 5};
        for (int what = 0; what < whats.length; what++) {
            Told.due("played(0, 0, 0, " + what + ")", x.played(0, 0, 0, what), whats[what]);
        }
        Told.due("played(0, 0, 0, 200)", x.played(0, 0, 0, 200), 6);
        Told.due("played(0, 0, 0, 201)", x.played(0, 0, 0, 201), 4);
        Told.due("played(0, 0, 0, 202)", x.played(0, 0, 0, 202), -2);
        Told.due("played(0, 0, 0, 5)", x.played(0, 0, 0, 5), -2);
        Told.due("played(0, 0, 0, -1)", x.played(0, 0, 0, -1), -2);
        Told.due("played(0, 1, 0, 0)", x.played(0, 1, 0, 0), -2);
        Told.due("played(2, 0, 0, 0)", x.played(2, 0, 0, 0), -2);
        Told.due("played(0, 0, 10, 0)", x.played(0, 0, 10, 0), -2);
        // In week 6 POST 1 has nothing left; the WISH of 6 above the 3 at POST 0 is not asked.
        Told.due("played(0, 0, 6, 0)", x.played(0, 0, 6, 0), 1);
        Told.due("played(0, 0, 6, 1)", x.played(0, 0, 6, 1), 3);
        playedStops("pull 4 0;", 0, 0);
        playedStops("pull 5 0;", 0, 0);
        playedStops("pull 0 0;pull 0 0;", 1, 9);
        playedStops("pull 1 0;pull 0 0;", 1, 6);
        playedStops("pull 0 0;pull 1 0;pull 3 0;", 2, 10);
        playedStops("pull 0 1;", 0, 0);
        playedStops("pull 0 2;", 0, 0);
        playedStops("pull 2 0;", 0, 0);
        playedStops("pull 0 0;pull 2 0;pull 3 0;", 1, 9);
        playedStops("pull 0 0;pull 3 0;", 2, 10);
        playedStops("", 0, 0);
        // Some are left at POST 0, and RIDER 1 has room, but the train does not STOP twice.
        ChestnutLine y = Told.line("post 1 0 9;post 1 0 0;rider 0 1 4 1 9 0;rider 0 1 4 1 9 0;");
        Told.text(y, 1, -1, "pull 0 0;pull 0 1;");
        Told.due("a POST twice", y.played(0, 0, 0, 0), 1);
        Told.due("a POST twice, POUNDS", y.played(0, 0, 0, 1), 4);
    }

    private static void playedStops(String plan, int stop, int pounds) {
        ChestnutLine x = Told.line(Told.SAMPLE);
        Told.text(x, 1, -1, plan);
        Told.due("played(0, 0, 0, 0) of " + plan, x.played(0, 0, 0, 0), stop);
        Told.due("played(0, 0, 0, 1) of " + plan, x.played(0, 0, 0, 1), pounds);
    }

    private static void purses(ChestnutLine x) {
        int[][] due = {{0, 0, 0, 0}, {2, 0, 0, 0}, {3, 9, 1, 3}, {7, 12, 8, 7}, {10, 21, 9, 10}, {28, 21, 9, 10},
            {29, 27, 11, 29}, {999, 27, 11, 29}};
        for (int[] d : due) {
            for (int what = 0; what < 3; what++) {
                Told.due("purse(0, 0, " + d[0] + ", " + what + ")", x.purse(0, 0, d[0], what), d[1 + what]);
            }
        }
        Told.due("purse(0, 9, 999, 0)", x.purse(0, 9, 999, 0), 3);
        Told.due("purse(0, 0, 1000, 0)", x.purse(0, 0, 1000, 0), -1);
        Told.due("purse(0, 0, -1, 0)", x.purse(0, 0, -1, 0), -1);
        Told.due("purse(0, 10, 0, 0)", x.purse(0, 10, 0, 0), -1);
        Told.due("purse(2, 0, 0, 0)", x.purse(2, 0, 0, 0), -1);
        Told.due("purse(0, 0, 0, 3)", x.purse(0, 0, 0, 3), -1);
        Told.due("purse(0, 0, 0, -1)", x.purse(0, 0, 0, -1), -1);
        // Several sets with as many POUNDS: the least COSTS; with these equal too: the least number.
        ChestnutLine y = Told.line("post 1 1 5;post 1 0 5;post 1 0 5;post 1 0 9;");
        Told.due("purse, least COSTS", y.purse(0, 0, 5, 1), 6);
        Told.due("purse, least number", y.purse(0, 0, 2, 1), 2);
        Told.due("purse, not the last POST", y.purse(0, 0, 999, 0), 15);
        // What an earlier question found is forgotten.
        ChestnutLine z = Told.line(Told.SAMPLE);
        Told.due("purse of 10", z.purse(0, 0, 10, 0), 21);
        Told.due("purse of 10 in week 9", z.purse(0, 9, 10, 0), 3);
        Told.due("purse of 10 in week 9, COSTS", z.purse(0, 9, 10, 2), 7);
    }

    /* COSTS 3 by 5 of 10, 19 by 2 of 10. */
    private static void odds(ChestnutLine x) {
        int[][] due = {{0, 2, 5}, {2, 2, 5}, {3, 4, 5}, {18, 4, 5}, {19, 9, 10}, {21, 9, 10}, {22, 1, 1}, {999, 1, 1},
            {-1, 53, 10}};
        for (int[] d : due) {
            Told.due("chance(0, " + d[0] + ", false)", x.chance(0, d[0], false), d[1]);
            Told.due("chance(0, " + d[0] + ", true)", x.chance(0, d[0], true), d[2]);
        }
        Told.due("chance(0, 1000, true)", x.chance(0, 1000, true), -1);
        Told.due("chance(0, -2, false)", x.chance(0, -2, false), -1);
        Told.due("chance(2, 0, false)", x.chance(2, 0, false), -1);
        int[][] slacks = {{0, 0}, {40, 0}, {41, 3}, {80, 3}, {81, 19}, {90, 19}, {91, 22}, {100, 22}, {101, -1},
            {-1, -1}};
        for (int[] s : slacks) {
            Told.due("slack(0, " + s[0] + ")", x.slack(0, s[0]), s[1]);
        }
        Told.due("slack(2, 0)", x.slack(2, 0), -1);
        int[][] prints = {{0, 0, 0}, {0, 100, 0}, {2, 0, 0}, {2, 1, 9}, {2, 40, 9}, {2, 41, 12}, {2, 100, 31},
            {4, 100, 44}, {4, 80, 25}, {1, 50, -1}, {5, 50, -1}, {-1, 50, -1}, {2, 101, -1}, {2, -1, -1}};
        for (int[] p : prints) {
            Told.due("print(0, " + p[0] + ", " + p[1] + ")", x.print(0, p[0], p[1]), p[2]);
        }
        Told.due("print(2, 0, 0)", x.print(2, 0, 0), -1);
        // What is never a fraction in least terms by itself: none at all, and all.
        ChestnutLine y = Told.line("post 1 0 0;post 1 0 0;odds 0 10;");
        Told.due("chance(0, 1, false)", y.chance(0, 1, false), 0);
        Told.due("chance(0, 1, true)", y.chance(0, 1, true), 1);
        Told.due("chance(0, -1, false)", y.chance(0, -1, false), 2);
        Told.due("chance(0, -1, true)", y.chance(0, -1, true), 1);
        Told.due("slack(0, 1)", y.slack(0, 1), 2);
        // COSTS above 999: 14 times 75 and 15.
        ChestnutLine z = Told.line("post 30 3 30;".repeat(15) + "post 1 0 0;halt 9;" + allOdds(10) + "station 15 0;");
        Told.due("slack(0, 100)", z.slack(0, 100), 1065);
        Told.due("chance(0, 999, false)", z.chance(0, 999, false), 0);
        Told.due("print(0, 15, 100)", z.print(0, 15, 100), 1515);
        ChestnutLine v = Told.line("post 30 3 30;".repeat(15) + "post 1 0 0;halt 9;" + allOdds(7));
        Told.due("chance(0, 0, false)", v.chance(0, 0, false), 14348907L);
        Told.due("chance(0, 0, true)", v.chance(0, 0, true), 1000000000000000L);
    }

    private static String allOdds(int odds) {
        StringBuilder all = new StringBuilder();
        for (int post = 0; post < 15; post++) {
            all.append("odds ").append(post).append(' ').append(odds).append(';');
        }
        return all.toString();
    }

    private static void shells(ChestnutLine x) {
        int[][] due = {{0, 0, 1, 0, 0}, {9, 3, 1, 1, 1}, {27, 29, 1, 11, 11}, {9, 4, 0, -1, 0}, {-1, 0, 0, -1, 0},
            {0, -1, 0, -1, 0}, {Integer.MAX_VALUE, Integer.MIN_VALUE, 0, -1, 0}};
        for (int[] d : due) {
            for (int what = 0; what < 3; what++) {
                Told.due("shells(0, 0, " + d[0] + ", " + d[1] + ", " + what + ")",
                    x.shells(0, 0, d[0], d[1], what), d[2 + what]);
            }
        }
        Told.due("shells(0, 0, 0, 0, 3)", x.shells(0, 0, 0, 0, 3), -1);
        Told.due("shells(0, 0, 0, 0, -1)", x.shells(0, 0, 0, 0, -1), -1);
        Told.due("shells(0, 10, 0, 0, 0)", x.shells(0, 10, 0, 0, 0), -1);
        Told.due("shells(2, 0, 0, 0, 0)", x.shells(2, 0, 0, 0, 0), -1);
        ChestnutLine y = Told.line("post 1 0 4;post 1 0 5;post 1 0 5;post 1 0 0;post 1 0 5;");
        Told.due("shells of several", y.shells(0, 0, 9, 4, 0), 2);
        Told.due("SURE of several", y.shells(0, 0, 9, 4, 1), 1);
        Told.due("MAYBE of several", y.shells(0, 0, 9, 4, 2), 7);
        Told.due("POSTS without POUNDS are none", y.shells(0, 0, 0, 2, 0), 0);
    }

    /* The OTHER train is at POSTS 4 .. 0 at 20, 27, 33, 37, 42 (12, 19, 25, 29, 34 on line 1). */
    private static void meetings(ChestnutLine x) {
        int[] whats = {46, 2, -1};
        int[] whats1 = {44, 0, 1};
        for (int what = 0; what < 3; what++) {
            Told.due("meet(0, 0, 7, 0, " + what + ")", x.meet(0, 0, 7, 0, what), whats[what]);
            Told.due("meet(1, 0, 7, 0, " + what + ")", x.meet(1, 0, 7, 0, what), whats1[what]);
        }
        int[] arrivals = {0, 8, 31, 39, 46};
        int[] waits = {0, 0, 2, 0, 0};
        for (int post = 0; post < 5; post++) {
            Told.due("meet(.., 100 + " + post + ")", x.meet(0, 0, 7, 0, 100 + post), arrivals[post]);
            Told.due("meet(.., 200 + " + post + ")", x.meet(0, 0, 7, 0, 200 + post), waits[post]);
        }
        int[] wrong = {-1, 3, 99, 105, 199, 205};
        for (int what : wrong) {
            Told.due("meet(.., " + what + ")", x.meet(0, 0, 7, 0, what), -2);
        }
        // Without STOPS it waits 24 at POST 2 on line 0, 16 on line 1; it never gets there later than 28.
        Told.due("meet(0, NONE, 7, 0, 1)", x.meet(0, -1, 7, 0, 1), 24);
        Told.due("meet(1, NONE, 7, 0, 1)", x.meet(1, -1, 7, 0, 1), 16);
        Told.due("risk(0, 0)", x.risk(0, 0), 0);
        Told.due("risk(0, 1)", x.risk(0, 1), 0);
        Told.due("risk(1, 0)", x.risk(1, 0), 2);
        Told.due("risk(1, 1)", x.risk(1, 1), 0);
        Told.due("risk(0, 2)", x.risk(0, 2), -1);
        Told.due("risk(0, -1)", x.risk(0, -1), -1);
        Told.due("risk(2, 0)", x.risk(2, 0), -1);
        // OTHER at POSTS 3 .. 0 at 5, 9, 19, 21: ours, at POST 1 at 2, waits for it there; later, it waits less.
        ChestnutLine y = Told.line("post 2 0 1;post 10 0 0;post 4 0 0;post 1 0 0;other 5;halt 3;"
            + "station 0 0;station 1 0;station 3 0;");
        Told.due("no STOP: waits at POST 1", y.meet(0, -1, 0, 0, 201), 17);
        Told.due("DRAG", y.risk(0, 1), 0);
        Told.due("RISK", y.risk(0, 0), 0);
        ChestnutLine z = Told.line("post 2 0 1;post 1 0 0;");
        Told.due("meet without an OTHER train", z.meet(0, 0, 0, 0, 0), -2);
        Told.due("risk without an OTHER train", z.risk(0, 0), -1);
        edgesOfMeeting();
    }

    private static void edgesOfMeeting() {
        // OTHER at the next STATION just when ours could be: no waiting; both meet there.
        ChestnutLine x = Told.line("post 5 0 0;post 5 0 0;post 1 0 0;other 0;station 0 0;station 1 0;");
        Told.due("OTHER at POST 1 at 5, as ours", x.meet(0, -1, 0, 0, 1), 0);
        Told.due("MET at a STATION alone", x.meet(0, -1, 0, 0, 2), -1);
        // One minute sooner for the OTHER one and ours waits at POST 0 till minute 9.
        ChestnutLine y = Told.line("post 5 0 2;post 4 0 0;post 1 0 0;other 0;station 0 0;station 1 0;"
            + "rider 0 1 9 1 99 0;halt 9;");
        Told.due("WAIT at POST 0", y.meet(0, -1, 0, 0, 200), 9);
        Told.due("MET", y.meet(0, -1, 0, 0, 2), -1);
        // Behind its STOP it is ready at 9, as the OTHER one is there: it waits no more.
        Told.due("WAIT behind a STOP", y.meet(0, 0, 0, 0, 200), 0);
        Told.due("MET behind a STOP", y.meet(0, 0, 0, 0, 2), -1);
        // Without STATIONS nobody waits.
        ChestnutLine z = Told.line("post 5 0 2;post 4 0 0;post 1 0 0;other 0;station 1 0;");
        Told.due("no WAIT but at a STATION", z.meet(0, -1, 0, 0, 1), 0);
        Told.due("MET on the stretch", z.meet(0, -1, 0, 0, 2), 0);
        // A STOP at POST 0 makes ours ready at 2, so that it is at POST 1 behind the OTHER one: it waits.
        ChestnutLine v = Told.line("post 5 0 2;post 5 0 0;post 1 0 0;other 0;station 0 0;station 1 0;station 2 0;");
        Told.due("DRAG of a STOP", v.risk(0, 1), 1);
        Told.due("RISK of a STOP", v.risk(0, 0), 0);
        // The OTHER one comes behind: ours has ended.
        ChestnutLine w = Told.line("post 5 0 2;post 5 0 0;post 1 0 0;other 10;");
        Told.due("the OTHER one comes behind", w.meet(0, -1, 0, 0, 2), -1);
        ChestnutLine u = Told.line("post 5 0 2;post 5 0 0;post 1 0 0;other 9;");
        Told.due("MET ahead of the last POST", u.meet(0, -1, 0, 0, 2), 1);
    }

    private static void logs(ChestnutLine x) {
        int[][] due = {{1, 3, 3, 3}, {8, 1, 15, 1}};
        for (int log = 0; log < 2; log++) {
            for (int what = 0; what < 4; what++) {
                Told.due("hold(0, " + log + ", " + what + ")", x.hold(0, log, what), due[log][what]);
            }
        }
        Told.due("hold(0, 0, 4)", x.hold(0, 0, 4), -2);
        Told.due("hold(0, 0, -1)", x.hold(0, 0, -1), -2);
        Told.due("hold(0, 2, 0)", x.hold(0, 2, 0), -2);
        Told.due("hold(2, 0, 0)", x.hold(2, 0, 0), -2);
        Told.due("seen(0, NONE, 0)", x.seen(0, -1, 0), 2);
        Told.due("seen(0, 1, 0)", x.seen(0, 1, 0), 4);
        Told.due("seen(0, 1, 1)", x.seen(0, 1, 1), 44);
        Told.due("seen(0, 1, 2)", x.seen(0, 1, 2), -2);
        Told.due("seen(0, NONE, 1)", x.seen(0, -1, 1), -2);
        Told.due("seen(0, 2, 0)", x.seen(0, 2, 0), -2);
        Told.due("seen(2, 0, 0)", x.seen(2, 0, 0), -2);
        holds("", 16, 0, 15, 0);
        holds("seen 0 0;", 16, 0, 15, 0);
        holds("seen 0 1;", 0, -1, 0, -1);
        holds("seen 5 0;", 0, -1, 0, -1);
        holds("seen 2 12;seen 2 13;", 0, -1, 0, -1);
        holds("seen 4 25;seen 4 25;", 1, 1, 1, 1);
        holds("seen 3 15;", 2, 0, 8, 0);
        holds("seen 4 29;seen 3 20;", 0, -1, 0, -1);
        holds("seen 4 34;seen 3 20;", 1, 12, 12, 12);
        // What an earlier question looked at is forgotten.
        ChestnutLine y = Told.line(Told.SAMPLE);
        Told.text(y, 2, -1, "seen 0 1;seen 3 15;seen 4 999;");
        Told.due("hold of what can't be", y.hold(0, 0, 0), 0);
        Told.text(y, 2, -1, "");
        Told.due("hold of nothing", y.hold(0, 1, 0), 16);
        Told.due("hold of nothing, SURE", y.hold(0, 1, 1), 0);
    }

    private static void holds(String log, int many, int sure, int maybe, int first) {
        ChestnutLine x = Told.line(Told.SAMPLE);
        Told.text(x, 2, -1, log);
        Told.due("hold(0, 0, 0) of " + log, x.hold(0, 0, 0), many);
        Told.due("hold(0, 0, 1) of " + log, x.hold(0, 0, 1), sure);
        Told.due("hold(0, 0, 2) of " + log, x.hold(0, 0, 2), maybe);
        Told.due("hold(0, 0, 3) of " + log, x.hold(0, 0, 3), first);
    }

    /* RIDER 0 alone, or both: 7 kept, 22 late. RIDER 1 alone pulls nowhere: 19 at POST 1 is above his PATIENCE. */
    private static void riders(ChestnutLine x) {
        int[][] gains = {{0, 0}, {48, -22}, {0, 0}, {48, -22}};
        for (int set = 0; set < 4; set++) {
            for (int rider = 0; rider < 2; rider++) {
                Told.due("gain(0, 0, " + set + ", " + rider + ")", x.gain(0, 0, set, rider), gains[set][rider]);
            }
        }
        int[][] none = {{2, 0, 0, 0}, {0, 10, 0, 0}, {0, -1, 0, 0}, {0, 0, 4, 0}, {0, 0, -1, 0}, {0, 0, 0, 2},
            {0, 0, 0, -1}};
        for (int[] n : none) {
            Told.due("gain(" + n[0] + ", " + n[1] + ", " + n[2] + ", " + n[3] + ")",
                x.gain(n[0], n[1], n[2], n[3]), -1000000);
        }
        int[] rests = {2, 1, 3, -2};
        for (int k = -1; k < 3; k++) {
            Told.due("rest(0, 0, " + k + ")", x.rest(0, 0, k), rests[k + 1]);
        }
        Told.due("rest(0, 0, -2)", x.rest(0, 0, -2), -2);
        Told.due("rest(0, 10, NONE)", x.rest(0, 10, -1), -2);
        Told.due("rest(2, 0, NONE)", x.rest(2, 0, -1), -2);
        int[][] calms = {{22, 0}, {21, 1}, {0, 1}, {-1, 1}, {999, 0}, {1000, -1}, {-2, -1}};
        for (int[] c : calms) {
            Told.due("calm(0, 0, " + c[0] + ")", x.calm(0, 0, c[0]), c[1]);
        }
        Told.due("calm(0, 10, 0)", x.calm(0, 10, 0), -1);
        Told.due("calm(2, 0, 0)", x.calm(2, 0, 0), -1);
        Told.due("rich(0, 0, 7, 0, false)", x.rich(0, 0, 7, 0, false), 0);
        Told.due("rich(0, NONE, 7, 0, false)", x.rich(0, -1, 7, 0, false), -1);
        Told.due("rich(0, 0, 7, 9, false)", x.rich(0, 0, 7, 9, false), -1);
        // Without POST 0 the others cost 26, without POST 1 10, without POST 3 22 as ever.
        Told.due("rich(0, 0, 7, 0, true)", x.rich(0, 0, 7, 0, true), 1);
        Told.due("rich(0, NONE, 7, 0, true)", x.rich(0, -1, 7, 0, true), -1);
        // RIDER 0: by ONE 60 - 3, else 48; RIDER 1: by ONE - 3, else - 22.
        Told.due("vote(0, 7, 0, false)", x.vote(0, 7, 0, false), 1);
        Told.due("vote(0, 7, 0, true)", x.vote(0, 7, 0, true), 2);
        Told.due("vote(0, 7, 10, true)", x.vote(0, 7, 10, true), -1);
        Told.due("vote(2, 7, 0, true)", x.vote(2, 7, 0, true), -1);
        bids(x);
        withoutRiders();
    }

    private static void bids(ChestnutLine x) {
        Told.due("BID of 0", x.bid(0, 0, 0, 0), 0);
        // All of 9, 6 and 12: 6 + 4 + 8 kept of 27; 26 gives 6 + 4 + 8 too (11 - 3 of the last).
        Told.due("FIT of 0", x.bid(0, 0, 0, 1), 26);
        // Kept with POSTS 0, 1: 7; 0, 3: 7; the least PATIENCE for 7 is that of POSTS 0 and 3, 3 + 7.
        Told.due("ROUSE of 0", x.bid(0, 0, 0, 2), 10);
        Told.due("BID of 1", x.bid(0, 0, 1, 0), 0);
        Told.due("FIT of 1", x.bid(0, 0, 1, 1), 1);
        // RIDER 0 takes 1 of POST 1 before him, whatever his PATIENCE.
        Told.due("ROUSE of 1", x.bid(0, 0, 1, 2), 0);
        Told.due("bid(0, 0, 2, 0)", x.bid(0, 0, 2, 0), -1);
        Told.due("bid(0, 0, -1, 0)", x.bid(0, 0, -1, 0), -1);
        Told.due("bid(0, 0, 0, 3)", x.bid(0, 0, 0, 3), -1);
        Told.due("bid(0, 0, 0, -1)", x.bid(0, 0, 0, -1), -1);
        Told.due("bid(0, 10, 0, 0)", x.bid(0, 10, 0, 0), -1);
        Told.due("bid(2, 0, 0, 0)", x.bid(2, 0, 0, 0), -1);
        Told.due("the line is as it was", x.rider(0, 0, 2), 10);
        // Two of one mind: the first of equal FARES pulls, so the second has to bid one more.
        ChestnutLine y = Told.line("post 1 0 9;post 1 0 0;rider 0 1 9 1 99 4;rider 0 1 9 1 99 4;");
        Told.due("BID of the first", y.bid(0, 0, 0, 0), 4);
        Told.due("BID of the second", y.bid(0, 0, 1, 0), 5);
    }

    /** As many of all as may be, so that every row is used to its end. */
    private static void fullLine() {
        StringBuilder text = new StringBuilder("post 1 0 9;".repeat(16) + "rider 0 15 60 1 99 9;".repeat(6));
        for (int post = 0; post < 16; post++) {
            text.append("station ").append(post).append(" 0;");
        }
        ChestnutLine x = Told.line(text + "halt 1;other 0;");
        Told.text(x, 1, -1, "pull 0 0;".repeat(16));
        Told.text(x, 2, -1, "seen 15 16;".repeat(10));
        Told.due("STATIONS", x.line(0, 7), 65535);
        // RIDERS 0 and 1 fill their POCKETS at POSTS 6 and 13, and leave 3 there.
        Told.due("POUNDS by FREE", x.run(0, 0, 0, 0, 1), 129);
        Told.due("STOPS by ONE", x.run(0, 1, 0, 0, 7), 63);
        Told.due("the last POST", x.run(0, 0, 0, 0, 115), 30);
        Told.due("the last RIDER by ONE", x.run(0, 1, 0, 0, 205), 6);
        Told.due("LATE at the last POST", x.late(0, 0, 0, 0, 15), 30);
        Told.due("LEFT", x.left(0, 0, 0, 0, -1), 15);
        Told.due("PURSE", x.purse(0, 0, 999, 1), 32767);
        Told.due("SHELLS", x.shells(0, 0, 63, 7, 0), 6435);
        Told.due("HOLD", x.hold(0, 0, 0), 15);
        Told.due("HOLD, MAYBE", x.hold(0, 0, 2), 32767);
        Told.due("the last PULL", x.pull(0, 15, 1), 0);
        Told.due("the last SEEN one", x.seen(0, 9, 1), 16);
        Told.due("played", x.played(0, 0, 0, 0), 1);
        Told.due("PRINT", x.print(0, 15, 100), 15);
        // OTHER at POST p at 15 - p: ours waits at POST 7 till 8, then it is past.
        Told.due("WAITS", x.meet(0, -1, 0, 0, 1), 1);
        Told.due("WAIT at POST 7", x.meet(0, -1, 0, 0, 207), 1);
        Told.due("WAIT at the last POST", x.meet(0, -1, 0, 0, 215), 0);
        // All but one keep back: who pulls at each of the 15 fills his POCKET at the seventh.
        Told.due("CALM of 7", x.calm(0, 0, 7), 31);
    }

    private static void withoutRiders() {
        ChestnutLine x = Told.line("post 1 0 9;post 1 0 0;");
        Told.due("vote without RIDERS", x.vote(0, 7, 0, false), -1);
        Told.due("rest without RIDERS", x.rest(0, 0, -1), 1);
        Told.due("the empty set", x.rest(0, 0, 0), 0);
        Told.due("gain without RIDERS", x.gain(0, 0, 0, 0), -1000000);
        Told.due("calm without RIDERS", x.calm(0, 0, 0), 0);
        Told.due("calm without a BISHOP", x.calm(0, 0, -1), 0);
        Told.due("rich without RIDERS", x.rich(0, 0, 0, 0, false), -1);
    }
}
