/** Promises 9, 10, 22, 23, 25, 26: who pulls by which LAW, where several want to, worked out by hand. */
public final class LawsTest {
    private static final int[] DRAWN_1 = {2, 0, 0, 1, -1};
    private static final int[] DRAWN_0 = {0, 2, 0, 1, -1};
    private static final String POSTS = "post 1 0 9;post 1 0 9;post 1 0 9;post 1 0 9;post 1 0 9;";

    public static void main(String[] args) {
        severalWant();
        drawing();
        edgesOfWanting();
        cuts();
        bishops();
        Told.finish();
    }

    private static void pullers(String of, ChestnutLine x, int law, int seed, int... due) {
        for (int post = 0; post < due.length; post++) {
            Told.due(of + " at POST " + post, x.who(0, law, seed, 0, post), due[post]);
        }
    }

    private static void severalWant() {
        ChestnutLine x = Told.line(POSTS + "rider 0 4 60 1 99 1;rider 0 4 60 1 99 2;rider 0 3 60 1 99 2;");
        pullers("FREE", x, 0, 1, 0, 0, 0, 0, -1);
        pullers("ONE", x, 1, 1, 0, 1, 2, -1, -1);
        pullers("FARES", x, 3, 1, 1, 1, 1, 1, -1);
        pullers("NONE", x, -1, 1, -1, -1, -1, -1, -1);
        // Each gets 6 of 9; RIDER 0 by FREE, 1 by FARES, by ONE all as much.
        Told.due("RICH by FREE", x.rich(0, 0, 1, 0, false), 0);
        Told.due("RICH by FARES", x.rich(0, 3, 1, 0, false), 1);
        Told.due("RICH by ONE", x.rich(0, 1, 1, 0, false), 0);
        Told.due("MOST", x.most(0, 1, 0, false), 0);
        Told.due("MOST, late", x.most(0, 1, 0, true), 1);
        Told.due("SPARE: the least", x.rich(0, 0, 1, 0, true), 0);
        Told.due("SPARE by ONE: who pulled nowhere else", x.rich(0, 1, 1, 0, true), 0);
        // Of two RIDERS who pull once each, each pulls somewhere whatever POST is without POUNDS.
        ChestnutLine y = Told.line(POSTS + "rider 0 4 60 1 99 1;rider 0 4 60 1 99 2;");
        Told.due("SPARE by ONE: no POST helps", y.rich(0, 1, 1, 0, true), -1);
    }

    /* Of SEED 1 come 16838, 38526, 10113, 50283, of 0 come 0, 54236, 42756, 54885: by 3, 3, 3 and 2. */
    private static void drawing() {
        ChestnutLine x = Told.line(POSTS + "rider 0 4 60 1 99 1;rider 0 4 60 1 99 2;rider 0 3 60 1 99 2;");
        pullers("LOTS of 1", x, 2, 1, DRAWN_1);
        pullers("LOTS of 0", x, 2, 0, DRAWN_0);
        // One alone is drawn too, so that the next draw is the second.
        ChestnutLine y = Told.line(POSTS + "rider 0 4 60 1 99 1;rider 1 4 60 1 99 2;rider 1 4 60 1 99 2;");
        Told.due("behind a draw of one", y.who(0, 2, 1, 0, 1), DRAWN_1[1]);
        // Where nobody wants nothing is drawn.
        ChestnutLine z = Told.line("post 1 0 0;" + POSTS
            + "rider 0 4 60 1 99 1;rider 0 4 60 1 99 2;rider 0 4 60 1 99 2;");
        Told.due("behind no draw", z.who(0, 2, 1, 0, 1), DRAWN_1[0]);
        Told.due("LOTS over seeds", x.lots(0, 0, Integer.MAX_VALUE, 2, 0), 72);
    }

    private static void edgesOfWanting() {
        // PATIENCE 4: the second STOP of 2 just goes, the third does not.
        pullers("PATIENCE", Told.line(POSTS + "rider 0 4 60 1 4 0;"), 0, 0, 0, 0, -1, -1, -1);
        pullers("PATIENCE below", Told.line(POSTS + "rider 0 4 60 1 3 0;"), 0, 0, 0, -1, -1, -1, -1);
        pullers("WISH as POUNDS", Told.line(POSTS + "rider 0 4 60 9 99 0;"), 0, 0, 0, 0, 0, 0, -1);
        pullers("WISH above", Told.line(POSTS + "rider 0 4 60 10 99 0;"), 0, 0, -1, -1, -1, -1, -1);
        pullers("on and off", Told.line(POSTS + "rider 1 3 60 1 99 0;"), 0, 0, -1, 0, 0, -1, -1);
        pullers("room", Told.line(POSTS + "rider 0 4 10 1 99 0;"), 0, 0, 0, 0, -1, -1, -1);
        pullers("room for all", Told.line(POSTS + "rider 0 4 9 1 99 0;"), 0, 0, 0, -1, -1, -1, -1);
        // GRADE 3 costs 2 + 6 and, but at POST 0, twice the minutes of the stretch before.
        ChestnutLine x = Told.line("post 7 3 1;post 11 3 1;post 1 3 1;rider 0 2 9 1 99 0;");
        Told.due("COST at POST 0", x.post(0, 0, 5), 8);
        Told.due("COST at POST 1", x.post(0, 1, 5), 22);
        Told.due("DELAY", x.run(0, 0, 0, 0, 3), 30);
        Told.due("minute at the last POST", x.run(0, 0, 0, 0, 0), 48);
    }

    private static void cuts() {
        // Of 1, 2, 3, 4, 5 POUNDS go 0, 0, 1, 1, 1 to the STOVE, each time anew.
        ChestnutLine x = Told.line("post 1 0 1;post 1 0 2;post 1 0 3;post 1 0 4;post 1 0 5;post 1 0 6;"
            + "rider 0 5 60 1 99 0;");
        Told.due("STOVE", x.run(0, 0, 0, 0, 4), 3);
        Told.due("KEEPS", x.run(0, 0, 0, 0, 200), 12);
        Told.due("LEFT", x.left(0, 0, 0, 0, -1), 6);
        // What goes to the STOVE takes room: 3 of 3, then 1 of the 4.
        ChestnutLine y = Told.line("post 1 0 3;post 1 0 4;post 1 0 0;rider 0 2 4 1 99 0;");
        Told.due("KEEPS with little room", y.run(0, 0, 0, 0, 200), 3);
        Told.due("LEFT with little room", y.left(0, 0, 0, 0, 1), 3);
    }

    private static void bishops() {
        for (int temper = 0; temper <= 5; temper++) {
            ChestnutLine x = Told.line("post 1 0 0;" + POSTS + "rider 0 5 60 1 99 0;bishop " + temper + ";");
            Told.due("BISHOP of " + temper, x.run(0, 0, 0, 0, 6), temper == 0 || temper == 5 ? -1 : temper);
        }
    }
}
