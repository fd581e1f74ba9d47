/** Term 4, promises 18 and 29: the OTHER train, both sides of waiting and of meeting. */
final class EdgesOfTrains {
    private EdgesOfTrains() {
    }

    static void all() {
        start();
        waiting();
        nextStations();
        postZero();
        delays();
        meetings();
        meetingsThatAreNone();
        meet();
        meetRefused();
        risks();
        drags();
        riskRefused();
    }

    private static ChestnutLine line(String posts, int other) {
        return Told.line(posts + "other " + other + ";");
    }

    private static void start() {
        Doc.term(4, "The OTHER train starts at the last POST at its MINUTE, comes without STOPS.");
        // Ours waits at POST 0 till it has come: its MINUTE and all MINUTES of the way.
        String way = "post 5 0 0;post 7 0 0;post 1 0 0;station 0 0;station 2 0;";
        Edge.row("WAIT at POST 0", other -> line(way, other).meet(0, -1, 0, 0, 200), 0, 12, 13, 14, 15, 16, 17, 18, 19, 20, 21,
            22, 23, 0);
        Told.due("a MINUTE of 999", line(way, 999).meet(0, -1, 0, 0, 1), 0);
    }

    private static void waiting() {
        Doc.term(4, "At each STATION that is not the last one, whose next STATION there is, our train, being there at t (behind its"
            + " STOP), WAITS till the OTHER one is there, if that is not there yet and would be at the next STATION before ours"
            + " could be without STOPS.");
        // Ours is at POST 1 at 4, at POST 2 at 10; the OTHER one at POST 2 at its MINUTE, at POST 1 6 later.
        String way = "post 4 0 0;post 6 0 0;post 1 0 0;station 1 0;station 2 0;";
        int[][] due = {{0, 2}, {8, 10}, {9, 11}, {10, 0}, {11, 0}, {999, 0}};
        for (int[] d : due) {
            ChestnutLine x = line(way, d[0]);
            Told.due("WAIT at POST 1, OTHER at " + d[0], x.meet(0, -1, 0, 0, 201), d[1]);
            Told.due("the last POST, OTHER at " + d[0], x.meet(0, -1, 0, 0, 0), 10 + d[1]);
        }
        // Behind a STOP of 3, 4, 5 at POST 1 ours is ready at 7, 8, 9; the OTHER one has been there since 8.
        for (int halt = 3; halt <= 5; halt++) {
            ChestnutLine y = line("post 4 0 0;post 6 0 9;post 2 0 0;post 1 0 0;station 1 0;station 2 0;"
                + "rider 1 2 9 1 99 0;halt " + halt + ";", 0);
            Told.due("the OTHER one is at POST 1 at 8, ours ready at " + (4 + halt), y.meet(0, 0, 0, 0, 201), halt == 3 ? 1 : 0);
        }
        // STOPS ahead count, those further on don't: at POST 2 ours could be just as the OTHER one, or a minute later.
        for (int halt = 1; halt <= 2; halt++) {
            ChestnutLine z = line("post 4 0 9;post 6 0 9;post 1 0 0;station 1 0;station 2 0;rider 0 1 9 1 99 0;"
                + "rider 1 2 9 1 1 0;halt " + halt + ";", 11);
            Told.due("behind a STOP of " + halt + " at POST 0", z.meet(0, 0, 0, 0, 201), halt == 1 ? 0 : 17 - 4 - 2);
        }
        ChestnutLine v = line("post 4 0 0;post 6 0 0;post 6 0 9;post 1 0 0;station 1 0;station 3 0;rider 2 3 9 1 99 0;halt 9;",
            16);
        Told.due("a STOP further on is not asked", v.meet(0, 0, 0, 0, 201), 0);
    }

    private static void nextStations() {
        Doc.term(4, "At each STATION that is not the last one, whose next STATION there is,");
        String way = "post 5 0 0;post 5 0 0;post 5 0 0;post 1 0 0;";
        // The OTHER one is at POSTS 3 .. 0 at 0, 5, 10, 15.
        Edge.row("WAITS without STATIONS", p -> line(way, 0).meet(0, -1, 0, 0, p), 200, 0, 0, 0, 0);
        Edge.row("WAITS with one", p -> line(way + "station 1 0;", 0).meet(0, -1, 0, 0, p), 200, 0, 0, 0, 0);
        Edge.row("WAITS with two", p -> line(way + "station 1 0;station 3 0;", 0).meet(0, -1, 0, 0, p), 200, 0, 5, 0, 0);
        Edge.row("WAITS with two others", p -> line(way + "station 0 0;station 2 0;", 0).meet(0, -1, 0, 0, p), 200, 15, 0, 0, 0);
        Edge.row("the last ones", p -> line(way + "station 2 0;station 3 0;", 0).meet(0, -1, 0, 0, p), 200, 0, 0, 0, 0);
        // Of a STATION further on than the next one nothing is asked: ours can be at POST 1 first.
        Edge.row("WAITS with three", p -> line(way + "station 0 0;station 1 0;station 3 0;", 0).meet(0, -1, 0, 0, p), 200, 0, 5,
            0, 0);
        // A printed MINUTE is nothing to the OTHER one.
        Edge.row("printed late", p -> line(way + "station 1 999;station 3 500;", 0).meet(0, -1, 0, 0, p), 200, 0, 5, 0, 0);
        // One WAIT is over when the OTHER one is there: it comes no more, and there is no second WAIT.
        StringBuilder all = new StringBuilder("post 3 0 0;".repeat(16));
        for (int post = 0; post < 16; post++) {
            all.append("station ").append(post).append(" 0;");
        }
        ChestnutLine x = line(all.toString(), 2);
        Edge.row("one WAIT of 16 STATIONS", p -> x.meet(0, -1, 0, 0, p), 200, 0, 0, 0, 0, 0, 0, 0, 5, 0, 0, 0, 0, 0, 0, 0, 0);
        Told.due("all WAITS", x.meet(0, -1, 0, 0, 1), 5);
    }

    private static void postZero() {
        Doc.term(4, "(There is no WAITING at POST 0 but if it is a STATION.)");
        String way = "post 5 0 0;post 4 0 0;post 1 0 0;station 1 0;";
        Told.due("POST 0 is none", line(way, 0).meet(0, -1, 0, 0, 200), 0);
        Told.due("POST 0 is one", line(way + "station 0 0;", 0).meet(0, -1, 0, 0, 200), 9);
    }

    private static void delays() {
        Doc.term(4, "WAITS make it later, not its DELAY.");
        // The OTHER one is at POST 0 at 9: ours waits there 7 behind its STOP, and has PATIENCE for just that STOP and one more.
        ChestnutLine x = line("post 5 0 9;post 4 0 9;post 1 0 9;station 0 0;station 1 0;rider 0 2 60 1 4 0;", 0);
        Told.due("WAIT at POST 0", x.meet(0, 0, 0, 0, 200), 7);
        Edge.row("the minutes with WAITS", p -> x.meet(0, 0, 0, 0, p), 100, 0, 14, 20);
        Edge.row("the minutes without", p -> x.run(0, 0, 0, 0, p), 100, 0, 7, 13);
        Told.due("DELAY", x.run(0, 0, 0, 0, 3), 4);
        Told.due("STOPS", x.run(0, 0, 0, 0, 7), 3);
        Told.due("LATE at POST 1", x.late(0, 0, 0, 0, 1), 7);
        Told.due("FINES", x.run(0, 0, 0, 0, 5), 7);
    }

    private static void meetings() {
        Doc.term(4, "MET: the first POST behind which, ahead of the next one, both are on the stretch at once (ours leaves it at a,"
            + " comes to the next one at b; the OTHER one is at the next one at c, at this one at d: a < d and c < b);");
        // Ours is at 0, 5, 10, 15; the OTHER one is at POST 3 at m, at 2 at m + 5, at 1 at m + 10, at 0 at m + 15.
        String way = "post 5 0 0;post 5 0 0;post 5 0 0;post 1 0 0;";
        Edge.row("MET", other -> line(way, other).meet(0, -1, 0, 0, 2), 0, 1, 1, 1, 1, 1, -1, 2, 2, 2, 2, 2, 2, 2, 2, 2, -1, -1);
        // A WAIT at a STATION comes ahead of leaving it: the OTHER one is past then.
        Told.due("behind a WAIT", line(way + "station 1 0;station 3 0;", 0).meet(0, -1, 0, 0, 2), -1);
        // A STOP comes ahead of leaving a POST too.
        ChestnutLine x = line("post 5 0 9;post 5 0 0;post 5 0 0;post 1 0 0;rider 0 1 9 1 99 0;halt 5;", 5);
        Told.due("without the STOP", x.meet(0, -1, 0, 0, 2), -1);
        Told.due("behind a STOP of 5 it is at POST 1 at 10, at 2 at 15", x.meet(0, 0, 0, 0, 2), 1);
        // Ours leaves POST 0 at 4 or 5; the OTHER one is there at 5.
        for (int halt = 4; halt <= 5; halt++) {
            ChestnutLine y = line("post 5 0 9;post 1 0 0;rider 0 1 9 1 99 0;halt " + halt + ";", 0);
            Told.due("left at " + halt, y.meet(0, 0, 0, 0, 2), halt == 4 ? 0 : -1);
        }
        ChestnutLine last = line("post 1 0 0;".repeat(15) + "post 30 0 0;", 14);
        Told.due("on the last stretch", last.meet(0, -1, 0, 0, 2), 14);
    }

    private static void meetingsThatAreNone() {
        Doc.term(4, "none: at STATIONS alone, or the OTHER one comes behind.");
        String two = "post 5 0 0;post 1 0 0;";
        Edge.row("MET on one stretch", other -> line(two, other).meet(0, -1, 0, 0, 2), 0, 0, 0, 0, 0, 0, -1, -1);
        Told.due("much later", line(two, 999).meet(0, -1, 0, 0, 2), -1);
        // At a POST that both come to at the same minute they are on no stretch at once.
        Told.due("both at POST 1 at 5", line("post 5 0 0;post 5 0 0;post 1 0 0;", 0).meet(0, -1, 0, 0, 2), -1);
    }

    private static void meet() {
        Doc.promise(18, "Of a RUN with the OTHER train, what 0: the minute at the last POST, 1: all WAITS, 2: MET (NONE), 100 + p:"
            + " the minute at which it comes to POST p, 200 + p: WAIT at POST p.");
        ChestnutLine x = Edge.twoLines();
        Edge.row("meet(0, 0, 0, 0, ..)", what -> x.meet(0, 0, 0, 0, what), 0, 46, 2, -1);
        Edge.row("meet(0, 0, 0, 0, ..)", what -> x.meet(0, 0, 0, 0, what), 100, 0, 8, 31, 39, 46);
        Edge.row("meet(0, 0, 0, 0, ..)", what -> x.meet(0, 0, 0, 0, what), 200, 0, 0, 2, 0, 0);
        Edge.row("meet(1, 0, 0, 0, ..)", what -> x.meet(1, 0, 0, 0, what), 0, 7, 1, -1);
        Edge.row("meet(1, 0, 0, 0, ..)", what -> x.meet(1, 0, 0, 0, what), 100, 0, 7);
        Edge.row("meet(1, 0, 0, 0, ..)", what -> x.meet(1, 0, 0, 0, what), 200, 1, 0);
        // By other weeks and LAWS the STOPS are others.
        Told.due("meet(1, 0, 0, 9, 0)", x.meet(1, 0, 0, 9, 0), 2);
        Told.due("meet(1, NONE, 0, 0, 1)", x.meet(1, -1, 0, 0, 1), 0);
    }

    private static void meetRefused() {
        Doc.promise(18, "-2: there is no OTHER train, as run(), or for another what.");
        ChestnutLine x = Edge.twoLines();
        Edge.range("meet(.., 0, 0, 0, 0)", line -> x.meet(line, 0, 0, 0, 0), 0, 46, 1, 7, -2);
        Edge.range("meet(0, .., 0, 0, 0)", law -> x.meet(0, law, 0, 0, 0), -1, 46, 3, 46, -2);
        Edge.range("meet(1, 0, 0, .., 0)", week -> x.meet(1, 0, 0, week, 0), 0, 7, 9, 2, -2);
        Edge.range("meet(0, 0, 0, 0, ..)", what -> x.meet(0, 0, 0, 0, what), 0, 46, 2, -1, -2);
        Edge.range("meet(0, 0, 0, 0, ..)", what -> x.meet(0, 0, 0, 0, what), 100, 0, 104, 46, -2);
        Edge.range("meet(0, 0, 0, 0, ..)", what -> x.meet(0, 0, 0, 0, what), 200, 0, 204, 0, -2);
        ChestnutLine full = Told.line(Edge.fullText());
        Edge.range("meet of a full one", what -> full.meet(0, -1, 0, 0, what), 100, 0, 115, 16, -2);
        Edge.range("meet of a full one", what -> full.meet(0, -1, 0, 0, what), 200, 0, 215, 0, -2);
        ChestnutLine alone = Told.line("post 1 0 0;post 1 0 0;station 0 0;station 1 0;");
        Edge.refused("no OTHER train", what -> alone.meet(0, 0, 0, 0, what), -2, -1, 0, 1, 2, 100, 101, 200, 201);
        Told.due("an OTHER train at 0", line("post 1 0 0;post 1 0 0;", 0).meet(0, 0, 0, 0, 0), 1);
        ChestnutLine nothing = new ChestnutLine();
        Edge.refused("meet, nothing told", what -> nothing.meet(0, 0, 0, 0, what), -2, -1, 0, 1, 2, 100, 200);
    }

    private static void risks() {
        Doc.term(6, "RISK: POSTS (bits, not the last one) at which a STOP alone, no other one, makes that both trains MEET on a"
            + " stretch;");
        Doc.promise(29, "RISK (what 0), DRAG (1).");
        // Ours is at 0, 5, 10, the OTHER one at POST 1 at 5: a STOP at POST 0, whoever wants it, makes that they MEET.
        ChestnutLine x = line("post 5 0 0;post 5 0 0;post 1 0 0;", 0);
        Told.due("RISK", x.risk(0, 0), 1);
        // With any STOP of 2 ours is at POST 14 at 16, at the last one at 17; a STOP at the last one is none.
        String sixteen = "post 1 0 0;".repeat(16);
        ChestnutLine y = line(sixteen, 16);
        Told.due("RISK of 16 POSTS", y.risk(0, 0), 32767);
        Told.due("DRAG without STATIONS", y.risk(0, 1), 0);
        Told.due("a minute earlier both are at POST 14 at 16", line(sixteen, 15).risk(0, 0), 0);
        Told.due("a minute later both are at the last POST at 17", line(sixteen, 17).risk(0, 0), 0);
        // A STOP of GRADE 3 costs more: at POST 1 alone 2 + 6 + 2.
        ChestnutLine z = line("post 1 0 0;post 1 3 0;post 1 0 0;post 1 0 0;", 12);
        Told.due("RISK of a long STOP", z.risk(0, 0), 2);
        Told.due("RISK a minute later", line("post 1 0 0;post 1 3 0;post 1 0 0;post 1 0 0;", 13).risk(0, 0), 0);
        // RIDERS and POUNDS are nothing to it.
        Told.due("by FREE there is no STOP", x.run(0, 0, 0, 0, 7), 0);
        // They MEET without any STOP too: with one at POST 0, and the last POST is none.
        ChestnutLine v = line("post 5 0 0;post 1 0 0;", 0);
        Told.due("MET without any STOP", v.meet(0, -1, 0, 0, 2), 0);
        Told.due("RISK of two POSTS", v.risk(0, 0), 1);
        // A STOP of 5 lets the OTHER one pass.
        Told.due("RISK of a long HALT", line("post 5 0 0;post 1 0 0;halt 5;", 0).risk(0, 0), 0);
        Told.due("RISK of a shorter one", line("post 5 0 0;post 1 0 0;halt 4;", 0).risk(0, 0), 1);
    }

    private static void drags() {
        Doc.term(6, "DRAG: those by which all WAITS are more than without any STOP.");
        // Ours could be at POST 2 at 10 as the OTHER one: a STOP at POST 0 or 1 makes it WAIT at POST 1, one at 2 does not.
        String way = "post 4 0 0;post 6 0 0;post 1 0 0;post 1 0 0;station 1 0;station 2 0;";
        ChestnutLine x = line(way, 9);
        Told.due("no WAIT without any STOP", x.meet(0, -1, 0, 0, 1), 0);
        Told.due("DRAG", x.risk(0, 1), 0b011);
        Told.due("RISK", x.risk(0, 0), 0);
        // A minute earlier it WAITS without any STOP, and a STOP makes that less.
        ChestnutLine y = line(way, 8);
        Told.due("a WAIT without any STOP", y.meet(0, -1, 0, 0, 1), 11);
        Told.due("no DRAG", y.risk(0, 1), 0);
    }

    private static void riskRefused() {
        Doc.promise(29, "NONE: there is no OTHER train, there is none such, or for another what.");
        ChestnutLine x = Edge.twoLines();
        Edge.range("risk(.., 1)", line -> x.risk(line, 1), 0, 0, 1, 1, -1);
        Edge.range("risk(1, ..)", what -> x.risk(1, what), 0, 0, 1, 1, -1);
        ChestnutLine alone = Told.line("post 1 0 0;post 1 0 0;station 0 0;station 1 0;");
        Edge.refused("no OTHER train", what -> alone.risk(0, what), -1, -1, 0, 1, 2);
        ChestnutLine nothing = new ChestnutLine();
        Edge.refused("risk, nothing told", what -> nothing.risk(0, what), -1, -1, 0, 1, 2);
    }
}
