/** Of terms 3 and 6 PURSE, SHELLS and HOLD, promises 12, 17 and 28: sets of POSTS, both sides of each bound. */
final class EdgesOfSets {
    private EdgesOfSets() {
    }

    static void all() {
        purse();
        purseOfSeveral();
        purseRefused();
        shells();
        shellsOfAnyNumbers();
        shellsRefused();
        hold();
        holdOfLogs();
        holdRefused();
    }

    private static void purses(ChestnutLine x, int week, int limit, long... due) {
        Edge.row("PURSE of " + limit + " in week " + week, what -> x.purse(0, week, limit, what), 0, due);
    }

    private static void purse() {
        Doc.term(3, "PURSE of a limit in a week: of all sets of POSTS (not the last one, with POUNDS) whose COSTS together are not"
            + " above the limit, the one with the most POUNDS;");
        Doc.promise(12, "PURSE, limit 0 .. 999, what 0: POUNDS, 1: the set (bits), 2: COSTS.");
        ChestnutLine x = Told.line(Told.SAMPLE);
        int[][] due = {{0, 0, 0, 0}, {2, 0, 0, 0}, {3, 9, 1, 3}, {6, 9, 1, 3}, {7, 12, 8, 7}, {9, 12, 8, 7}, {10, 21, 9, 10},
            {18, 21, 9, 10}, {19, 21, 9, 10}, {28, 21, 9, 10}, {29, 27, 11, 29}, {30, 27, 11, 29}, {999, 27, 11, 29}};
        for (int[] d : due) {
            purses(x, 0, d[0], d[1], d[2], d[3]);
        }
        // In week 6 POST 1 has none left, in week 9 POST 0 has none, POST 3 has 3.
        purses(x, 5, 999, 4 + 1 + 7, 0b1011, 29);
        purses(x, 6, 999, 3 + 6, 0b1001, 10);
        purses(x, 9, 999, 3, 0b1000, 7);
        purses(Told.line("post 1 0 0;post 1 0 9;"), 0, 999, 0, 0, 0);
        ChestnutLine full = Told.line(Edge.fullText());
        purses(full, 0, 0, 0, 0, 0);
        purses(full, 0, 1, 9, 1, 1);
        purses(full, 0, 15, 135, 32767, 15);
        purses(full, 0, 14, 126, 16383, 14);
        // Fifteen STOPS of 15 and 14 times 75 are above 999: one is left out, and of equals POST 14.
        ChestnutLine dear = Told.line("post 30 3 30;".repeat(16) + "halt 9;");
        purses(dear, 0, 999, 30 * 14, 16383, 15 + 13 * 75);
        purses(dear, 0, 990, 30 * 14, 16383, 990);
        purses(dear, 0, 989, 30 * 13, 8191, 915);
        // All COSTS together are just 999; in week 9 nothing is left, whatever was asked ahead of it.
        ChestnutLine just = Told.line(Edge.JUST_999 + "eat 1;");
        purses(just, 0, 999, 9 * 15, 32767, 999);
        purses(just, 9, 999, 0, 0, 0);
        // One of the twelve that cost 75 is left out, the last of them.
        purses(just, 0, 998, 9 * 14, 32767 - (1 << 12), 924);
        purses(just, 9, 990, 0, 0, 0);
    }

    private static void purseOfSeveral() {
        Doc.term(3, "of several that with the least COSTS, then the least number (bits).");
        ChestnutLine x = Told.line("post 1 1 5;post 1 0 5;post 1 0 5;post 1 0 9;");
        purses(x, 0, 1, 0, 0, 0);
        purses(x, 0, 2, 5, 0b010, 2);
        purses(x, 0, 3, 5, 0b010, 2);
        purses(x, 0, 4, 10, 0b110, 4);
        purses(x, 0, 7, 10, 0b110, 4);
        purses(x, 0, 8, 15, 0b111, 8);
        // POST 3 and one of POSTS 1 and 2, or POST 0 and one of them: POST 1 has the less bit.
        purses(Told.line("post 1 0 2;post 1 0 3;post 1 0 3;post 1 0 4;post 1 0 0;"), 0, 4, 7, 0b1010, 4);
        purses(Told.line("post 1 0 4;post 1 0 3;post 1 0 3;post 1 0 2;post 1 0 1;"), 0, 4, 7, 0b0011, 4);
        purses(Told.line("post 1 0 4;post 1 0 4;post 1 0 4;post 1 0 4;post 1 0 4;"), 0, 7, 12, 0b0111, 6);
        // One POST of 8 for 4 minutes or two of 4 for 2 each: as many POUNDS, as many minutes.
        purses(Told.line("post 1 0 4;post 1 0 4;post 1 1 8;post 1 0 0;"), 0, 4, 8, 0b011, 4);
        purses(Told.line("post 1 1 8;post 1 0 4;post 1 0 4;post 1 0 0;"), 0, 4, 8, 0b001, 4);
        purses(Told.line("post 1 0 4;post 1 1 8;post 1 0 4;post 1 0 0;"), 0, 4, 8, 0b010, 4);
    }

    private static void purseRefused() {
        Doc.promise(12, "NONE: there is none such (of any), or for another what.");
        ChestnutLine x = Edge.twoLines();
        Edge.range("purse(.., 0, 999, 0)", line -> x.purse(line, 0, 999, 0), 0, 27, 1, 7, -1);
        Edge.range("purse(0, .., 999, 0)", week -> x.purse(0, week, 999, 0), 0, 27, 9, 3, -1);
        Edge.range("purse(0, 0, .., 0)", limit -> x.purse(0, 0, limit, 0), 0, 0, 999, 27, -1);
        Edge.range("purse(0, 0, 999, ..)", what -> x.purse(0, 0, 999, what), 0, 27, 2, 29, -1);
        Edge.refused("purse, nothing told", line -> new ChestnutLine().purse(line, 0, 0, 0), -1, -1, 0, 1);
    }

    private static void found(ChestnutLine x, int pounds, int minutes, long... due) {
        Edge.row("SHELLS of " + pounds + ", " + minutes, what -> x.shells(0, 0, pounds, minutes, what), 0, due);
    }

    private static void shells() {
        Doc.term(3, "SHELLS: a number of POUNDS, a number of minutes: sets of POSTS (as of PURSE) that have just these POUNDS, these"
            + " COSTS together: how many; SURE: POSTS in all of them; MAYBE: those in any.");
        Doc.promise(17, "what 0: how many sets, 1: SURE (bits; NONE without sets), 2: MAYBE (bits).");
        ChestnutLine x = Told.line("post 1 0 4;post 1 0 5;post 1 0 5;post 1 0 0;post 1 0 5;");
        found(x, 9, 4, 2, 0b001, 0b111);
        found(x, 9, 3, 0, -1, 0);
        found(x, 9, 5, 0, -1, 0);
        found(x, 8, 4, 0, -1, 0);
        found(x, 10, 4, 1, 0b110, 0b110);
        found(x, 5, 2, 2, 0, 0b110);
        found(x, 14, 6, 1, 0b111, 0b111);
        // The empty set; a POST without POUNDS and the last one are in none.
        found(x, 0, 0, 1, 0, 0);
        found(x, 0, 2, 0, -1, 0);
        found(x, 4, 4, 0, -1, 0);
        found(x, 19, 8, 0, -1, 0);
        ChestnutLine full = Told.line(Edge.fullText());
        found(full, 9 * 7, 7, 6435, 0, 32767);
        found(full, 9 * 15, 15, 1, 32767, 32767);
        found(full, 9 * 14, 14, 15, 0, 32767);
        found(full, 9 * 16, 16, 0, -1, 0);
        ChestnutLine week = Told.line(Told.SAMPLE);
        Edge.row("SHELLS of 9 and 10 by weeks", w -> week.shells(0, w, 3 + 6, 10, 0), 0, 0, 0, 0, 0, 0, 0, 1, 0, 0, 0);
        Edge.row("SHELLS of POST 1 by weeks", w -> week.shells(0, w, 6 - w, 19, 0), 0, 1, 1, 1, 1, 1, 1, 0, 0, 0, 0);
    }

    private static void shellsOfAnyNumbers() {
        Doc.promise(17, "SHELLS (of any numbers),");
        ChestnutLine x = Told.line(Told.SAMPLE);
        int[] any = {-1, -9, 1 << 16, Integer.MIN_VALUE, Integer.MAX_VALUE, Integer.MIN_VALUE + 9};
        for (int number : any) {
            found(x, number, 3, 0, -1, 0);
            found(x, 9, number, 0, -1, 0);
            found(x, number, number, 0, -1, 0);
            found(x, 0, number, 0, -1, 0);
        }
        found(x, 9, 3, 1, 1, 1);
    }

    private static void shellsRefused() {
        Doc.promise(17, "NONE: there is none such (of either), or for another what.");
        ChestnutLine x = Edge.twoLines();
        Edge.range("shells(.., 0, 0, 0, 0)", line -> x.shells(line, 0, 0, 0, 0), 0, 1, 1, 1, -1);
        Edge.range("shells(0, .., 0, 0, 0)", week -> x.shells(0, week, 0, 0, 0), 0, 1, 9, 1, -1);
        Edge.range("shells(1, 0, 7, 4, ..)", what -> x.shells(1, 0, 7, 4, what), 0, 1, 2, 1, -1);
        Edge.range("shells of none", what -> x.shells(1, 0, 7, 3, what), 0, 0, 2, 0, -1);
        Edge.refused("shells, nothing told", line -> new ChestnutLine().shells(line, 0, 0, 0, 0), -1, -1, 0, 1);
    }

    private static void holds(String line, String log, long... due) {
        ChestnutLine x = Told.line(line);
        Told.due("LOG " + log, Told.text(x, 2, -1, log), 0);
        Edge.row("HOLD of " + log, what -> x.hold(0, 0, what), 0, due);
    }

    private static void hold() {
        Doc.term(6, "HOLD: sets of POSTS (not the last one, whatever POUNDS) that, as STOPS without WAITS, bring the train to each"
            + " POST of a LOG at its MINUTE", ": how many; SURE, MAYBE as of SHELLS; FIRST: the least (bits).");
        Doc.promise(28, "What 0: how many HOLD, 1: SURE (NONE without), 2: MAYBE, 3: FIRST (NONE).");
        // Without STOPS at 0, 5, 9, 15, 22; COSTS 3, 19, 5, 7; POST 2 has no POUNDS.
        holds(Told.SAMPLE, "seen 4 22;", 1, 0, 0, 0);
        holds(Told.SAMPLE, "seen 4 21;", 0, -1, 0, -1);
        holds(Told.SAMPLE, "seen 4 23;", 0, -1, 0, -1);
        holds(Told.SAMPLE, "seen 4 27;", 1, 4, 4, 4);
        holds(Told.SAMPLE, "seen 4 56;", 1, 15, 15, 15);
        holds(Told.SAMPLE, "seen 4 57;", 0, -1, 0, -1);
        holds(Told.SAMPLE, "seen 0 0;", 16, 0, 15, 0);
        holds(Told.SAMPLE, "seen 0 1;", 0, -1, 0, -1);
        // A STOP at the POST itself makes it later further on alone.
        holds(Told.SAMPLE, "seen 1 5;", 8, 0, 14, 0);
        holds(Told.SAMPLE, "seen 1 8;", 8, 1, 15, 1);
        holds(Told.SAMPLE, "seen 1 24;", 0, -1, 0, -1);
        // The OTHER train would make ours WAIT at POST 2: that is not asked.
        holds(Told.SAMPLE, "seen 3 15;seen 4 22;", 1, 0, 0, 0);
        // Two of four POSTS that cost as much.
        String even = "post 1 0 0;".repeat(5);
        holds(even, "seen 4 8;", 6, 0, 15, 3);
        holds(even, "seen 4 8;seen 2 2;", 1, 12, 12, 12);
        holds(even, "seen 4 8;seen 2 4;", 4, 0, 15, 5);
        holds(even, "seen 2 4;", 8, 0, 15, 1);
    }

    private static void holdOfLogs() {
        Doc.term(6, "(one that is not there: none HOLD)");
        holds(Told.SAMPLE, "seen 5 22;", 0, -1, 0, -1);
        holds(Told.SAMPLE, "seen 15 0;", 0, -1, 0, -1);
        holds(Told.SAMPLE, "seen 0 0;seen 4 22;seen 5 23;", 0, -1, 0, -1);
        // Nothing SEEN; the same twice; one POST at two minutes; a later POST at an earlier minute.
        holds(Told.SAMPLE, "", 16, 0, 15, 0);
        holds(Told.SAMPLE, "seen 1 8;seen 1 8;", 8, 1, 15, 1);
        holds(Told.SAMPLE, "seen 1 5;seen 1 8;", 0, -1, 0, -1);
        holds(Told.SAMPLE, "seen 4 22;seen 3 15;", 1, 0, 0, 0);
        holds(Told.SAMPLE, "seen 2 12;seen 1 24;", 0, -1, 0, -1);
        holds(Told.SAMPLE, "seen 4 999;", 0, -1, 0, -1);
        holds(Edge.SHORT, "", 2, 0, 1, 0);
        holds(Edge.SHORT, "seen 1 6;", 1, 1, 1, 1);
        // As many SEEN ones as may be, and as many POSTS.
        String full = Edge.fullText();
        holds(full, "seen 15 16;".repeat(10), 15, 0, 32767, 1);
        holds(full, "", 32768, 0, 32767, 0);
        holds(full, "seen 15 22;", 6435, 0, 32767, 127);
        holds(full, "seen 15 30;", 1, 32767, 32767, 32767);
        holds(full, "seen 15 31;", 0, -1, 0, -1);
        // STOPS at 0, 2 and 6, and two of 8 .. 13.
        holds(full, "seen 1 2;seen 2 3;seen 3 5;seen 4 6;seen 5 7;seen 6 8;seen 7 10;seen 8 11;seen 14 19;seen 15 20;",
            15, 0b1000101, 0b11111101000101, 0b1101000101);
        holds("post 30 3 0;".repeat(16) + "halt 9;", "seen 15 999;", 0, -1, 0, -1);
        holds("post 30 3 0;".repeat(16) + "halt 9;", "seen 15 975;", 3432, 0, 32766, 254);
    }

    private static void holdRefused() {
        Doc.promise(28, "-2: there is none such (of either), or for another what.");
        ChestnutLine x = Edge.twoLines();
        Edge.refused("hold, no LOG told", log -> x.hold(0, log, 0), -2, -1, 0, 1);
        Told.text(x, 2, -1, "seen 1 8;");
        Edge.range("hold, one LOG told", log -> x.hold(0, log, 0), 0, 8, 0, 8, -2);
        Told.text(x, 2, -1, "");
        Edge.range("hold(.., 1, 0)", line -> x.hold(line, 1, 0), 0, 16, 1, 2, -2);
        Edge.range("hold(0, .., 0)", log -> x.hold(0, log, 0), 0, 8, 1, 16, -2);
        Edge.range("hold(0, 0, ..)", what -> x.hold(0, 0, what), 0, 8, 3, 1, -2);
        // What one LOG has SEEN is nothing to another one.
        Told.text(x, 2, 0, "seen 0 1;seen 2 12;seen 4 999;");
        Edge.row("hold of one and of the other", log -> x.hold(0, log, 0), 0, 0, 16);
        Edge.row("once more", log -> x.hold(0, log, 3), 0, -1, 0);
        ChestnutLine none = new ChestnutLine();
        Told.text(none, 2, -1, "");
        Edge.refused("hold, no LINE told", line -> none.hold(line, 0, 0), -2, -1, 0, 1);
    }
}
