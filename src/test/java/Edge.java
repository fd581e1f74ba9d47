/** Asking on both sides of a bound; lines that the tests of edges share. */
final class Edge {
    interface Ask {
        long of(int value);
    }

    /** A line of two POSTS: COST 4 at POST 0, its RIDER gathers 6 of the 7 there in week 0. */
    static final String SHORT = "post 2 1 7;post 3 0 4;station 0 5;station 1 1;odds 0 10;rider 0 1 6 2 9 3;eat 2;other 3;"
        + "bishop 1;";

    /** 16 POSTS of 9 POUNDS, whose COSTS are 9 at POST 0 and 990 at the others together; 391 minutes long. */
    static final String JUST_999 = "post 30 0 9;" + "post 30 3 9;".repeat(11) + "post 15 3 9;".repeat(2) + "post 1 3 9;".repeat(2)
        + "halt 9;";

    private static final int FAR = 1 << 16;

    private Edge() {
    }

    /** The sample as LINE 0, the short one as LINE 1. */
    static ChestnutLine twoLines() {
        ChestnutLine x = Told.line(Told.SAMPLE);
        Told.due("a second LINE", Told.text(x, 0, -1, SHORT), 1);
        return x;
    }

    /** As many POSTS, STATIONS and RIDERS as may be, each STOP costing 1, 15 minutes long. */
    static String fullText() {
        StringBuilder text = new StringBuilder("post 1 0 9;".repeat(16) + "rider 0 15 60 1 99 9;".repeat(6));
        for (int post = 0; post < 16; post++) {
            text.append("station ").append(post).append(" 0;");
        }
        return text + "halt 1;other 0;";
    }

    /** The least and the highest value allowed, the next ones on both sides, and some that are far off. */
    static void range(String call, Ask ask, int low, long atLow, int high, long atHigh, long refused) {
        Told.due(call + " with " + low, ask.of(low), atLow);
        Told.due(call + " with " + high, ask.of(high), atHigh);
        // Those far off would pass for the least or the highest one if bits of theirs were lost.
        refused(call, ask, refused, low - 1, high + 1, low + FAR, high + FAR, low - FAR, low ^ Integer.MIN_VALUE,
            high ^ Integer.MIN_VALUE, Integer.MIN_VALUE, Integer.MAX_VALUE);
    }

    static void refused(String call, Ask ask, long refused, int... values) {
        for (int value : values) {
            Told.due(call + " with " + value, ask.of(value), refused);
        }
    }

    /** Answers of a call by values from a first one on. */
    static void row(String call, Ask ask, int first, long... due) {
        for (int i = 0; i < due.length; i++) {
            Told.due(call + " with " + (first + i), ask.of(first + i), due[i]);
        }
    }
}
