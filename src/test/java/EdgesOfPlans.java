/** Term 5's RUN by a PLAN and promise 20: both sides of what makes that a PULL can't be. */
final class EdgesOfPlans {
    /* Five POSTS; RIDER 0 from 0 to 4, RIDER 1 from 1 to 3, who WISHES for too many and has no PATIENCE. */
    private static final String LINE = "post 1 0 9;post 1 0 6;post 1 0 0;post 1 0 12;post 1 0 5;rider 0 4 60 1 99 0;"
        + "rider 1 3 60 30 0 0;eat 1;";

    private EdgesOfPlans() {
    }

    static void all() {
        postsThatCantBe();
        ridersThatCantBe();
        stop();
        played();
        playedRefused();
    }

    private static ChestnutLine planned(String line, String plan) {
        ChestnutLine x = Told.line(line);
        Told.due("PLAN " + plan, Told.text(x, 1, -1, plan), 0);
        return x;
    }

    private static void stops(String plan, int stop, int pounds) {
        ChestnutLine x = planned(LINE, plan);
        Told.due("STOP of " + plan, x.played(0, 0, 0, 0), stop);
        Told.due("POUNDS of " + plan, x.played(0, 0, 0, 1), pounds);
        Told.due("DELAY of " + plan, x.played(0, 0, 0, 2), 2 * stop);
    }

    private static void postsThatCantBe() {
        Doc.term(5, "A RUN by a PLAN in a week: PULL by PULL; one can't be, if its POST is not there, the last one, or not above"
            + " that of the PULL ahead;");
        stops("pull 3 0;", 1, 12);
        stops("pull 4 0;", 0, 0);
        stops("pull 5 0;", 0, 0);
        stops("pull 15 0;", 0, 0);
        stops("pull 0 0;pull 1 0;", 2, 15);
        stops("pull 1 0;pull 1 0;", 1, 6);
        stops("pull 1 0;pull 1 1;", 1, 6);
        stops("pull 1 0;pull 0 0;", 1, 6);
        stops("pull 1 0;pull 3 0;pull 1 1;", 2, 18);
        // The POST has some left and the RIDER has room, but the train has been there.
        ChestnutLine x = planned("post 1 0 9;post 1 0 0;rider 0 1 4 1 9 0;rider 0 1 4 1 9 0;", "pull 0 0;pull 0 1;");
        Told.due("a POST twice", x.played(0, 0, 0, 0), 1);
        // A LINE may have fewer POSTS than the PLAN told of, or, later on, more.
        ChestnutLine y = planned("post 1 0 9;post 1 0 9;rider 0 1 60 1 9 0;", "pull 0 0;pull 1 0;pull 2 0;");
        Told.due("POST 1 is the last one", y.played(0, 0, 0, 0), 1);
        Told.due("a longer LINE", Told.text(y, 0, 0, "post 1 0 9;".repeat(4) + "rider 0 3 60 1 9 0;"), 0);
        Told.due("all PULLS can be", y.played(0, 0, 0, 0), 3);
    }

    private static void ridersThatCantBe() {
        Doc.term(5, "if its RIDER is not there, not on the train, his POCKET has no room, or the POST has no POUNDS that week");
        stops("pull 0 2;", 0, 0);
        stops("pull 0 5;", 0, 0);
        stops("pull 0 1;", 0, 0);
        stops("pull 1 1;", 1, 6);
        stops("pull 3 1;", 0, 0);
        stops("pull 2 0;", 0, 0);
        ChestnutLine last = planned("post 1 0 9;post 1 0 9;post 1 0 0;rider 0 2 60 1 9 0;rider 0 1 60 1 9 0;",
            "pull 0 0;pull 1 1;");
        Told.due("off at POST 1", last.played(0, 0, 0, 0), 1);
        ChestnutLine on = planned("post 1 0 9;post 1 0 9;post 1 0 0;rider 0 2 60 1 9 0;rider 1 2 60 1 9 0;",
            "pull 0 0;pull 1 1;");
        Told.due("on at POST 1", on.played(0, 0, 0, 0), 2);
        for (int pocket = 8; pocket <= 10; pocket++) {
            ChestnutLine x = planned("post 1 0 9;post 1 0 6;post 1 0 0;rider 0 2 " + pocket + " 1 9 0;", "pull 0 0;pull 1 0;");
            Told.due("STOP with a POCKET of " + pocket, x.played(0, 0, 0, 0), pocket == 10 ? 2 : 1);
            Told.due("POUNDS with a POCKET of " + pocket, x.played(0, 0, 0, 1), pocket);
        }
        ChestnutLine z = planned(LINE, "pull 1 1;pull 3 0;");
        Edge.row("STOP by weeks", week -> z.played(0, 0, week, 0), 0, 2, 2, 2, 2, 2, 2, 0, 0, 0, 0);
        Edge.row("POUNDS by weeks", week -> z.played(0, 0, week, 1), 0, 18, 16, 14, 12, 10, 8, 0, 0, 0, 0);
        Doc.term(5, "(WISH and PATIENCE are not asked).");
        Told.due("a WISH of 30 for 6", z.rider(0, 1, 3), 30);
        Told.due("no PATIENCE", z.rider(0, 1, 4), 0);
        Told.due("he pulls nevertheless", z.played(0, 0, 0, 201), 4);
    }

    private static void stop() {
        Doc.term(5, "STOP: the first PULL that can't be, else how many there are; those ahead of it are done.");
        stops("", 0, 0);
        stops("pull 0 0;", 1, 9);
        stops("pull 0 0;pull 1 0;pull 3 0;", 3, 27);
        stops("pull 0 0;pull 2 0;pull 3 0;", 1, 9);
        stops("pull 4 0;pull 3 0;", 0, 0);
        stops("pull 0 0;pull 1 0;pull 4 0;", 2, 15);
        StringBuilder all = new StringBuilder();
        for (int post = 0; post < 16; post++) {
            all.append("pull ").append(post).append(" 0;");
        }
        ChestnutLine x = planned("post 1 0 1;".repeat(16) + "rider 0 15 60 1 9 0;", all.toString());
        Told.due("of 16 PULLS the last is at the last POST", x.played(0, 0, 0, 0), 15);
        Told.due("POUNDS of 15 PULLS", x.played(0, 0, 0, 1), 15);
    }

    private static void played() {
        Doc.promise(20, "A RUN by a PLAN, what 0: STOP of its PULLS, 1: POUNDS gathered, 2: DELAY, 3: FINES, 4: what the STOVE"
            + " gets, 200 + r: what RIDER r KEEPS.");
        ChestnutLine x = planned(Told.SAMPLE, "pull 0 0;pull 1 1;pull 3 0;");
        // 9 and 1 by RIDER 0, 6 by RIDER 1, who has no PATIENCE for it; LATE by 0, 31 - 12 and 51 - 25.
        Edge.row("played(0, 0, 0, ..)", what -> x.played(0, 0, 0, what), 0, 3, 16, 29, 17 + 24, 5);
        Edge.row("played(0, 0, 0, ..)", what -> x.played(0, 0, 0, what), 200, 7, 4);
        Told.due("an empty PLAN", Told.text(x, 1, -1, ""), 1);
        Edge.row("played(0, 1, 0, ..)", what -> x.played(0, 1, 0, what), 0, 0, 0, 0, 0, 0);
        Edge.row("played(0, 1, 0, ..)", what -> x.played(0, 1, 0, what), 200, 0, 0);
        // A RUN by a PLAN leaves nothing for one by a LAW.
        Told.due("by FREE", x.run(0, 0, 0, 0, 1), 10);
        Told.due("by NONE", x.run(0, -1, 0, 0, 1), 0);
    }

    private static void playedRefused() {
        Doc.promise(20, "-2: there is none such (of any), or for another what.");
        ChestnutLine x = Edge.twoLines();
        Edge.refused("played, no PLAN told", plan -> x.played(0, plan, 0, 0), -2, -1, 0, 1);
        Told.text(x, 1, -1, "pull 0 0;pull 1 1;");
        Edge.range("played, one PLAN told", plan -> x.played(0, plan, 0, 0), 0, 2, 0, 2, -2);
        Told.text(x, 1, -1, "");
        Edge.range("played(.., 0, 0, 0)", line -> x.played(line, 0, 0, 0), 0, 2, 1, 1, -2);
        Edge.range("played(0, .., 0, 0)", plan -> x.played(0, plan, 0, 0), 0, 2, 1, 0, -2);
        Edge.range("played(0, 0, .., 0)", week -> x.played(0, 0, week, 0), 0, 2, 9, 0, -2);
        Edge.range("played(0, 0, 0, ..)", what -> x.played(0, 0, 0, what), 0, 2, 4, 5, -2);
        Edge.range("played(0, 0, 0, ..)", what -> x.played(0, 0, 0, what), 200, 6, 201, 4, -2);
        ChestnutLine full = planned(Edge.fullText(), "pull 0 5;");
        Edge.range("played of a full one", what -> full.played(0, 0, 0, what), 200, 0, 205, 6, -2);
        ChestnutLine none = planned("post 1 0 1;post 1 0 1;", "pull 0 0;");
        Edge.refused("played without RIDERS", what -> none.played(0, 0, 0, what), -2, 5, 199, 200, 201);
        Told.due("STOP without RIDERS", none.played(0, 0, 0, 0), 0);
        ChestnutLine noLine = new ChestnutLine();
        Told.text(noLine, 1, -1, "");
        Edge.refused("played, no LINE told", line -> noLine.played(line, 0, 0, 0), -2, -1, 0, 1);
    }
}
