import java.nio.charset.StandardCharsets;

/** Promises 1 to 5, 33 to 35 and term 1, sentence by sentence: the tape, texts, FAULTS, counts, images. */
final class EdgesOfTexts {
    private static final int BLANKS = 0x20202020;
    private static final String POST = "post 1 0 0;";
    private static final String TWO = POST + POST;
    private static final String RIDER = "rider 0 1 1 1 0 0;";
    /* A row of each sort that may be told again and again, and how many of it at most. */
    private static final String[] ROWS = {POST, "pull 0 0;", "seen 0 0;"};

    private interface Shown {
        int in(ChestnutLine x);
    }

    private EdgesOfTexts() {
    }

    static void all() {
        newObject();
        useOf512Calls();
        feeding();
        feedingTooMuch();
        ending();
        taking();
        faultyTexts();
        refusedTexts();
        faults();
        counts();
        images();
        refusedImages();
        comingBack();
        numbersOfPosts();
        numbersOfRiders();
        numbersOfLines();
        defaults();
        fullTape();
        words();
        bytesBetween();
        digits();
        rowsOfLines();
        plans();
        laterOnes();
        firstFaults();
        numbersThatCantBe();
        tooMany();
        postsNotThere();
        places();
    }

    // ---- promises 1 to 3 ----

    private static void newObject() {
        Doc.promise(1, "No LINES, PLANS, LOGS; no images.");
        ChestnutLine x = new ChestnutLine();
        Edge.row("count", x::count, 0, 0, 0, 0);
        for (int i = -1; i < 3; i++) {
            Told.due("line(" + i + ", 0)", x.line(i, 0), -2);
            Told.due("pull(" + i + ", NONE, 0)", x.pull(i, -1, 0), -2);
            Told.due("seen(" + i + ", NONE, 0)", x.seen(i, -1, 0), -2);
            Told.due("again(" + i + ")", x.again(i), false);
        }
        Told.due("the tape", x.end(1), -1);
        // One object knows nothing of what another one was told.
        Told.line(Told.SAMPLE);
        Told.due("line(0, 0) of another", x.line(0, 0), -2);
    }

    private static void useOf512Calls() {
        Doc.use("An object is used for at most 512 calls after it has been made; what later calls answer is free.");
        ChestnutLine x = new ChestnutLine();
        x.feed(0x706f7374, 0x20312030, 0x20393b70, 0x6f737420, 0x31203020);
        x.feed(0x303b0000, 0, 0, 0, 0);
        x.end(22);
        x.text(0, -1);
        for (int call = 5; call < 512; call++) {
            Told.due("call " + call, x.line(0, 0), 2);
        }
        Told.due("call 512", x.post(0, 0, 2), 9);
    }

    private static void feeding() {
        Doc.promise(2, "The tape: twenty bytes come behind it, of each number the highest first: how many it has.");
        for (int i = 0; i < 20; i++) {
            // A byte that no text goes on with tells its place.
            int[] w = {BLANKS, BLANKS, BLANKS, BLANKS, BLANKS};
            w[i / 4] ^= 0x61 << 24 - i % 4 * 8;
            ChestnutLine x = new ChestnutLine();
            Told.due("feed", x.feed(w[0], w[1], w[2], w[3], w[4]), 20);
            Told.due("feed behind it", x.feed(BLANKS, BLANKS, BLANKS, BLANKS, BLANKS), 40);
            Told.due("text", x.text(1, -1), -1);
            Told.due("the place of byte " + i, x.fault(1), i);
        }
        ChestnutLine x = new ChestnutLine();
        Edge.row("feed", i -> x.feed(-1, Integer.MIN_VALUE, Integer.MAX_VALUE, 0, i), 1, 20, 40, 60, 80);
        Told.due("behind an end", x.end(7), 7);
        Told.due("feed behind 7", x.feed(0, 0, 0, 0, 0), 27);
        ChestnutLine y = new ChestnutLine();
        Told.due("feed of pull", y.feed(0x70756c6c, 0x2031300a, 0x333b2020, BLANKS, BLANKS), 20);
        Told.due("text of it", y.text(1, -1), 0);
        Told.due("its POST", y.pull(0, 0, 0), 10);
        Told.due("its RIDER", y.pull(0, 0, 1), 3);
    }

    private static ChestnutLine blanks(int bytes) {
        ChestnutLine x = new ChestnutLine();
        for (int fed = 0; fed < bytes; fed += 20) {
            x.feed(BLANKS, BLANKS, BLANKS, BLANKS, BLANKS);
        }
        Told.due("end(" + bytes + ")", x.end(bytes), bytes);
        return x;
    }

    private static void feedingTooMuch() {
        Doc.promise(2, "NONE, and nothing comes, if there would be more than 600.");
        Told.due("feed at 579", blanks(579).feed(0, 0, 0, 0, 0), 599);
        Told.due("feed at 580", blanks(580).feed(0, 0, 0, 0, 0), 600);
        for (int bytes : new int[] {581, 582, 599, 600}) {
            ChestnutLine x = blanks(bytes);
            for (int again = 0; again < 2; again++) {
                Told.due("feed at " + bytes, x.feed(-1, -1, -1, -1, -1), -1);
                Told.due("end(" + (bytes + 1) + ")", x.end(bytes + 1), -1);
                Told.due("end(" + bytes + ")", x.end(bytes), bytes);
            }
            Told.due("text: nothing but blanks", x.text(2, -1), 0);
        }
    }

    private static void ending() {
        Doc.promise(3, "The tape has its first n bytes alone: n.");
        ChestnutLine x = new ChestnutLine();
        Told.feed(x, "pull 1 2;pull 3 4;");
        Told.due("end(18)", x.end(18), 18);
        Told.due("end(9)", x.end(9), 9);
        Told.due("what is gone is gone", x.end(10), -1);
        Told.due("text", x.text(1, -1), 0);
        Told.due("PULLS", x.pull(0, -1, 0), 1);
        Told.feed(x, "pull 1 2;");
        Told.due("end(0)", x.end(0), 0);
        Told.due("end(0) twice", x.end(0), 0);
        Told.due("text of nothing", x.text(1, -1), 1);
        Told.due("no PULLS", x.pull(1, -1, 0), 0);
        Doc.promise(3, "NONE if it has not so many, or n is below 0.");
        for (int bytes : new int[] {0, 1, 20, 599, 600}) {
            ChestnutLine y = blanks(bytes);
            Edge.refused("end at " + bytes, y::end, -1, bytes + 1, -1, -2, Integer.MIN_VALUE, Integer.MAX_VALUE, 1 << 16);
            Told.due("the tape is as it was", y.end(bytes), bytes);
        }
    }

    // ---- promises 4 and 5 ----

    private static void taking() {
        Doc.promise(4, "The tape is taken (and is empty then) as a text of a sort, a further one (at NONE), or in the place of"
            + " one: its number.");
        String[] whole = {TWO, ROWS[1], ROWS[2]};
        for (int sort = 0; sort < 3; sort++) {
            ChestnutLine x = new ChestnutLine();
            for (int i = 0; i < 2; i++) {
                Told.due("a further one of " + sort, Told.text(x, sort, -1, whole[sort]), i);
                Told.due("the tape behind it", x.end(1), -1);
                Told.due("feed behind it", x.feed(0, 0, 0, 0, 0), 20);
                x.end(0);
            }
            for (int i = 0; i < 2; i++) {
                Told.due("in place of " + i, Told.text(x, sort, i, whole[sort] + ROWS[sort]), i);
                Told.due("the tape behind it", x.end(1), -1);
                Told.due("what is there now", size(x, sort, i), sort == 0 ? 3 : 2);
                Told.due("the other one", size(x, sort, 1 - i), (sort == 0 ? 2 : 1) + i);
            }
            Told.due("as many as there were", x.count(sort), 2);
        }
    }

    private static int size(ChestnutLine x, int sort, int i) {
        if (sort == 0) {
            return x.line(i, 0);
        }
        return sort == 1 ? x.pull(i, -1, 0) : x.seen(i, -1, 0);
    }

    private static void faultyTexts() {
        Doc.promise(4, "NONE: a FAULT.");
        String[] whole = {TWO, ROWS[1], ROWS[2]};
        for (int sort = 0; sort < 3; sort++) {
            ChestnutLine x = new ChestnutLine();
            Told.due("faulty at first", Told.text(x, sort, -1, whole[sort] + "x"), -1);
            Told.due("the tape behind it", x.end(1), -1);
            Told.due("none is there", x.count(sort), 0);
            Told.due("a first one", Told.text(x, sort, -1, whole[sort]), 0);
            Told.due("faulty in place", Told.text(x, sort, 0, whole[sort] + ROWS[sort] + "x"), -1);
            Told.due("the old one is there", size(x, sort, 0), sort == 0 ? 2 : 1);
            Told.due("a further faulty one", Told.text(x, sort, -1, whole[sort] + "x"), -1);
            Told.due("one is there", x.count(sort), 1);
            Told.due("no second one", size(x, sort, 1), -2);
            Told.due("a second one", Told.text(x, sort, -1, whole[sort]), 1);
        }
        // What a faulty text told is in no later one.
        ChestnutLine y = new ChestnutLine();
        Told.text(y, 0, -1, POST.repeat(5) + RIDER + "halt 9;other 7;station 1 5;odds 0 3;x");
        Told.due("behind a faulty one", Told.text(y, 0, -1, TWO), 0);
        Edge.row("line(0, ..)", what -> y.line(0, what), 0, 2, 0, 2, 0, 0, 0, -1, 0);
        Told.due("no ODDS", y.post(0, 0, 3), 0);
    }

    private static void refusedTexts() {
        Doc.promise(4, "-2: there is none such, there are as many as may be, or no such sort (no text is read then, FAULT 0).");
        for (int sort = 0; sort < 3; sort++) {
            String good = sort == 0 ? TWO : ROWS[sort];
            for (int there = 0; there <= 2; there++) {
                ChestnutLine x = new ChestnutLine();
                for (int i = 0; i < there; i++) {
                    Told.text(x, sort, -1, good);
                }
                int of = sort;
                int[] none = {there, there + 1, -2, 1 << 16, Integer.MIN_VALUE, Integer.MAX_VALUE};
                Edge.refused("text(" + sort + ", ..), " + there + " there", at -> refused(x, of, at, good), -2, none);
                if (there == 2) {
                    Told.due("a third one", refused(x, sort, -1, good), -2);
                }
                Told.due("as many as there were", x.count(sort), there);
                for (int i = 0; i < there; i++) {
                    Told.due("as it was", size(x, sort, i), sort == 0 ? 2 : 1);
                }
            }
        }
        ChestnutLine y = new ChestnutLine();
        for (int at = -1; at < 2; at++) {
            int place = at;
            Edge.refused("text(.., " + at + ")", sort -> refused(y, sort, place, ROWS[1]), -2, -1, 3, 1 << 16,
                Integer.MIN_VALUE, Integer.MAX_VALUE);
        }
        Edge.row("count", y::count, 0, 0, 0, 0);
    }

    /** A text that is refused, behind one with a FAULT; what it leaves behind. */
    private static int refused(ChestnutLine x, int sort, int at, String good) {
        int[] counts = {x.count(0), x.count(1), x.count(2)};
        int faulty = x.count(2) == 2 ? 0 : -1;
        Told.due("a FAULT ahead of it", Told.text(x, 2, faulty, "q"), -1);
        int answer = Told.text(x, sort, at, good + "q");
        Told.due("FAULT 0", x.fault(0), 0);
        Told.due("no place", x.fault(1), -1);
        Told.due("the tape is taken", x.end(1), -1);
        for (int i = 0; i < 3; i++) {
            Told.due("count(" + i + ")", x.count(i), counts[i]);
        }
        return answer;
    }

    private static void faults() {
        Doc.promise(5, "Of the latest text(), what 0: the FAULT, 0 without, 1: its place, NONE without.");
        ChestnutLine x = new ChestnutLine();
        Edge.row("fault, nothing told", x::fault, 0, 0, -1);
        Told.text(x, 1, -1, "q");
        Edge.row("fault at the first byte", x::fault, 0, 1, 0);
        Told.due("feed", x.feed(0, 0, 0, 0, 0), 20);
        Told.due("end", x.end(0), 0);
        Told.due("a refused end", x.end(1), -1);
        Edge.row("fault behind feed and end", x::fault, 0, 1, 0);
        Told.text(x, 1, -1, "pull 16 0;");
        Edge.row("the latest fault", x::fault, 0, 2, 5);
        Told.text(x, 1, -1, ROWS[1].repeat(17));
        Edge.row("the latest fault", x::fault, 0, 3, 144);
        Told.text(x, 0, -1, POST);
        Edge.row("the latest fault", x::fault, 0, 4, 11);
        Told.text(x, 1, -1, ROWS[1]);
        Edge.row("no fault", x::fault, 0, 0, -1);
        Doc.promise(5, "NONE for another what.");
        Told.text(x, 0, -1, POST);
        Edge.range("fault", x::fault, 0, 4, 1, 11, -1);
    }

    // ---- promises 33 to 35 ----

    private static void counts() {
        Doc.promise(33, "How many there are of a sort.", "-2 for another one.");
        ChestnutLine x = new ChestnutLine();
        Edge.range("count", x::count, 0, 0, 2, 0, -2);
        Told.text(x, 2, -1, "");
        Edge.row("count", x::count, 0, 0, 0, 1);
        Told.text(x, 2, -1, "");
        Told.text(x, 1, -1, "");
        Edge.row("count", x::count, 0, 0, 1, 2);
        Told.text(x, 0, -1, TWO);
        Told.text(x, 0, -1, TWO);
        Told.text(x, 1, 0, ROWS[1]);
        Edge.range("count", x::count, 0, 2, 2, 2, -2);
        Told.due("count(1)", x.count(1), 1);
    }

    private static void images() {
        Doc.promise(34, "Image k (0 .. 2) is all that is told (the tape, the FAULT, too), as it is now: true;");
        ChestnutLine x = new ChestnutLine();
        for (int k = 0; k < 3; k++) {
            // Each image has k LINES of k + 2 POSTS, a FAULT at place k and k bytes on the tape.
            if (k > 0) {
                Told.due("a LINE more", Told.text(x, 0, -1, POST.repeat(k + 2)), k - 1);
            }
            Told.text(x, 1, -1, " ".repeat(k) + "q");
            Told.feed(x, "p".repeat(k));
            Told.due("image(" + k + ")", x.image(k), true);
            x.end(0);
        }
        for (int k : new int[] {1, 0, 2, 0, 1, 1}) {
            Told.due("again(" + k + ")", x.again(k), true);
            Told.due("LINES of image " + k, x.count(0), k);
            Told.due("POSTS of image " + k, x.line(k - 1, 0), k == 0 ? -2 : k + 2);
            Told.due("the FAULT of image " + k, x.fault(0), 1);
            Told.due("its place of image " + k, x.fault(1), k);
            Told.due("the tape of image " + k, x.end(k + 1), -1);
            Told.due("the tape of image " + k, x.end(k), k);
        }
        Told.due("image(1) anew", x.image(1), true);
        x.end(0);
        Told.due("a LINE in place", Told.text(x, 0, 0, POST.repeat(9)), 0);
        Told.due("again(1)", x.again(1), true);
        Told.due("what image 1 has", x.line(0, 0), 3);
        Told.due("image(0) of the same", x.image(0), true);
        Told.due("again(0)", x.again(0), true);
        Told.due("what image 0 has now", x.count(0), 1);
    }

    private static void refusedImages() {
        Doc.promise(34, "false for another k.");
        ChestnutLine x = new ChestnutLine();
        Edge.refused("image", k -> x.image(k) ? 1 : 0, 0, -1, 3, 4, 1 << 16, Integer.MIN_VALUE, Integer.MAX_VALUE);
        for (int k = 0; k < 3; k++) {
            Told.due("again(" + k + ") behind them", x.again(k), false);
        }
        Told.text(x, 0, -1, TWO);
        Edge.range("image", k -> x.image(k) ? 1 : 0, 0, 1, 2, 1, 0);
        Told.text(x, 0, -1, TWO);
        Edge.refused("image", k -> x.image(k) ? 1 : 0, 0, -1, 3);
        x.again(0);
        Told.due("what image 0 has", x.count(0), 1);
        x.again(2);
        Told.due("what image 2 has", x.count(0), 1);
    }

    private static void comingBack() {
        Doc.promise(35, "All that is as image k has it: true; false if there is none such.");
        ChestnutLine x = Edge.twoLines();
        Told.text(x, 1, -1, "pull 1 2;");
        Told.text(x, 2, -1, "seen 3 444;");
        Told.text(x, 0, 0, "halt 0;");
        Told.feed(x, "pull 3 4;");
        Told.due("image(1)", x.image(1), true);
        x.end(0);
        Told.text(x, 0, 0, TWO);
        Told.text(x, 0, 1, POST.repeat(3));
        Told.text(x, 1, 0, "");
        Told.text(x, 1, -1, "pull 5 5;");
        Told.text(x, 2, 0, "");
        Told.text(x, 2, -1, "");
        Told.feed(x, "seen");
        Edge.refused("again", k -> x.again(k) ? 1 : 0, 0, -1, 0, 2, 3, 1 << 16, Integer.MIN_VALUE, Integer.MAX_VALUE);
        Told.due("nothing has changed by that", x.line(0, 0), 2);
        Told.due("nor the tape", x.end(4), 4);
        Told.due("again(1)", x.again(1), true);
        Edge.row("line(0, ..)", what -> x.line(0, what), 0, 5, 2, 3, 1, 2, 2, 20, 21);
        Edge.row("line(1, ..)", what -> x.line(1, what), 0, 2, 1, 2, 2, 0, 1, 3, 3);
        Edge.row("post(0, 3, ..)", what -> x.post(0, 3, what), 0, 7, 2, 12, 0, -1, 7);
        Edge.row("rider(0, 1, ..)", what -> x.rider(0, 1, what), 0, 1, 3, 20, 3, 15, 5);
        Edge.row("count", x::count, 0, 2, 1, 1);
        Edge.row("pull(0, 0, ..)", what -> x.pull(0, 0, what), 0, 1, 2);
        Edge.row("seen(0, 0, ..)", what -> x.seen(0, 0, what), 0, 3, 444);
        Edge.row("fault", x::fault, 0, 2, 5);
        Told.due("the tape", x.end(10), -1);
        Told.due("the tape's text", x.text(1, -1), 1);
        Edge.row("pull(1, 0, ..)", what -> x.pull(1, 0, what), 0, 3, 4);
    }

    // ---- term 1: the NUMBERS ----

    /** before, a NUMBER, behind: the last NUMBERS that can be, as they are told then, and the first that can't. */
    private static void bounds(int sort, String before, String behind, int low, int high, Shown shown) {
        for (int number : new int[] {low, high}) {
            ChestnutLine x = new ChestnutLine();
            String text = before + number + behind;
            Told.due("text of " + text, Told.text(x, sort, -1, text), 0);
            Told.due("what is told by " + text, shown.in(x), number);
        }
        if (low > 0) {
            Told.faulty(sort, before + (low - 1) + behind, 2, before.length());
        }
        if (high < 999) {
            Told.faulty(sort, before + (high + 1) + behind, 2, before.length());
            Told.faulty(sort, before + 999 + behind, 2, before.length());
            // As many as would be 0 or the highest again in eight bits.
            Told.faulty(sort, before + 256 + behind, 2, before.length());
            Told.faulty(sort, before + (256 + high) + behind, 2, before.length());
        } else {
            Told.faulty(sort, before + 1000 + behind, 1, before.length());
        }
    }

    private static void numbersOfPosts() {
        Doc.term(1, "A LINE has POSTS, at most 16, from 0 on:");
        ChestnutLine x = Told.line(POST.repeat(15) + "post 7 0 0;");
        Told.due("16 POSTS", x.line(0, 0), 16);
        Told.due("POST 15", x.post(0, 15, 0), 7);
        Told.due("POST 0", x.post(0, 0, 0), 1);
        Told.due("POST 16", x.post(0, 16, 0), -2);
        Told.faulty(0, POST.repeat(17), 3, 176);
        Doc.term(1, "MINUTES to the next one, 1 .. 30,");
        bounds(0, "post ", " 0 0;" + POST, 1, 30, y -> y.post(0, 0, 0));
        Doc.term(1, "a GRADE of that stretch, 0 .. 3,");
        bounds(0, "post 1 ", " 0;" + POST, 0, 3, y -> y.post(0, 0, 1));
        Doc.term(1, "POUNDS of chestnuts, 0 .. 30;");
        bounds(0, "post 1 0 ", ";" + POST, 0, 30, y -> y.post(0, 0, 2));
        Doc.term(1, "STATIONS among them, each with a printed MINUTE, 0 .. 999;");
        bounds(0, TWO + "station 1 ", ";", 0, 999, y -> y.post(0, 1, 4));
        Told.due("no STATION", Told.line(TWO).post(0, 1, 4), -1);
        Doc.term(1, "ODDS of a POST, 0 .. 10 (0 at first);");
        bounds(0, TWO + "odds 1 ", ";", 0, 10, y -> y.post(0, 1, 3));
        Told.due("ODDS at first", Told.line(TWO).post(0, 1, 3), 0);
    }

    private static void numbersOfRiders() {
        Doc.term(1, "RIDERS, at most 6, from 0 on:");
        ChestnutLine x = Told.line(TWO + RIDER.repeat(5) + "rider 0 1 7 1 0 0;");
        Told.due("6 RIDERS", x.line(0, 1), 6);
        Told.due("RIDER 5", x.rider(0, 5, 2), 7);
        Told.due("RIDER 6", x.rider(0, 6, 2), -1);
        Told.due("no RIDERS", Told.line(TWO).line(0, 1), 0);
        Told.faulty(0, TWO + RIDER.repeat(7), 3, 130);
        Doc.term(1, "a POST where one gets on, a further one where one gets off,");
        String sixteen = POST.repeat(16);
        Told.due("on at 0", Told.line(sixteen + "rider 0 15 1 1 0 0;").rider(0, 0, 0), 0);
        Told.due("on at 14", Told.line(sixteen + "rider 14 15 1 1 0 0;").rider(0, 0, 0), 14);
        Told.faulty(0, sixteen + "rider 15 15 1 1 0 0;", 2, 185);
        Told.faulty(0, sixteen + "rider 16 15 1 1 0 0;", 2, 182);
        Told.faulty(0, sixteen + "rider 999 15 1 1 0 0;", 2, 182);
        bounds(0, sixteen + "rider 0 ", " 1 1 0 0;", 1, 15, y -> y.rider(0, 0, 1));
        bounds(0, sixteen + "rider 7 ", " 1 1 0 0;", 8, 15, y -> y.rider(0, 0, 1));
        bounds(0, sixteen + "rider 14 ", " 1 1 0 0;", 15, 15, y -> y.rider(0, 0, 1));
        Doc.term(1, "a POCKET, 1 .. 60,");
        bounds(0, TWO + "rider 0 1 ", " 1 0 0;", 1, 60, y -> y.rider(0, 0, 2));
        Doc.term(1, "a WISH, 1 .. 30,");
        bounds(0, TWO + "rider 0 1 1 ", " 0 0;", 1, 30, y -> y.rider(0, 0, 3));
        Doc.term(1, "a PATIENCE, 0 .. 200,");
        bounds(0, TWO + "rider 0 1 1 1 ", " 0;", 0, 200, y -> y.rider(0, 0, 4));
        Doc.term(1, "a FARE, 0 .. 9;");
        bounds(0, TWO + "rider 0 1 1 1 0 ", ";", 0, 9, y -> y.rider(0, 0, 5));
    }

    private static void numbersOfLines() {
        Doc.term(1, "HALT, 1 .. 9 (2),");
        bounds(0, TWO + "halt ", ";", 1, 9, y -> y.line(0, 2));
        Doc.term(1, "EAT, 0 .. 9 (0),");
        bounds(0, TWO + "eat ", ";", 0, 9, y -> y.line(0, 3));
        Doc.term(1, "GRACE, 0 .. 60 (0),");
        bounds(0, TWO + "grace ", ";", 0, 60, y -> y.line(0, 4));
        Doc.term(1, "the BISHOP's temper, 0 .. 9 (0: there is none);");
        bounds(0, TWO + "bishop ", ";", 0, 9, y -> y.line(0, 5));
        Doc.term(1, "an OTHER train's MINUTE, 0 .. 999 (none at first).");
        bounds(0, TWO + "other ", ";", 0, 999, y -> y.line(0, 6));
    }

    private static void defaults() {
        Doc.term(1, "HALT, 1 .. 9 (2), EAT, 0 .. 9 (0), GRACE, 0 .. 60 (0), the BISHOP's temper, 0 .. 9 (0: there is none); an"
            + " OTHER train's MINUTE, 0 .. 999 (none at first).");
        ChestnutLine x = Told.line(TWO);
        Edge.row("line(0, ..)", what -> x.line(0, what), 0, 2, 0, 2, 0, 0, 0, -1, 0);
        // A LINE in the place of another one has nothing of that.
        Told.text(x, 0, 0, Told.SAMPLE);
        Told.text(x, 0, 0, POST.repeat(5));
        Edge.row("line(0, ..) anew", what -> x.line(0, what), 0, 5, 0, 2, 0, 0, 0, -1, 0);
        Edge.row("post(0, 0, ..) anew", what -> x.post(0, 0, what), 0, 1, 0, 0, 0, -1, 2);
    }

    // ---- term 1: tokens and texts ----

    private static void fullTape() {
        Doc.term(1, "THE TAPE has at most 600 bytes.");
        String filled = " ".repeat(600 - 18) + "pull 1 2;pull 3 4;";
        ChestnutLine x = new ChestnutLine();
        Told.due("a text of 600 bytes", Told.text(x, 1, -1, filled), 0);
        Told.due("its last PULL", x.pull(0, 1, 1), 4);
        Told.faulty(1, " ".repeat(599) + "p", 1, 599);
        Told.faulty(1, " ".repeat(592) + "pull 1 2", 1, 600);
        Told.faulty(0, " ".repeat(600), 4, 600);
        Told.fine(1, " ".repeat(600));
    }

    private static void words() {
        Doc.term(1, "TOKENS, as long as they go, blanks (10, 32) between: words, rows of letters a .. z;");
        Told.fine(1, "pull 1 2;pull 3 4;");
        Told.fine(1, "pull1 2;pull3 4 ;");
        Told.fine(1, " pull\n1\n\n2 ; \n");
        Told.faulty(1, "pullpull 1 2;", 1, 0);
        Told.faulty(1, "pu ll 1 2;", 1, 0);
        Told.faulty(1, "pul 1 2;", 1, 0);
        Told.faulty(1, "pulla 1 2;", 1, 0);
        Told.faulty(1, "pullz 1 2;", 1, 0);
        Told.faulty(1, "zpull 1 2;", 1, 0);
        Told.faulty(1, "qull 1 2;", 1, 0);
        Told.faulty(1, "puql 1 2;", 1, 0);
        Told.faulty(1, "pulq 1 2;", 1, 0);
        Told.faulty(1, "a", 1, 0);
        Told.faulty(1, "z".repeat(600), 1, 0);
        // The signs next to a and z, and great letters, are of no word: the word ends ahead of them.
        Told.faulty(1, "pull` 1 2;", 1, 4);
        Told.faulty(1, "pull{ 1 2;", 1, 4);
        Told.faulty(1, "pullA 1 2;", 1, 4);
        Told.faulty(1, "PULL 1 2;", 1, 0);
    }

    private static void bytesBetween() {
        Doc.term(1, "blanks (10, 32) between", "; one byte.");
        for (int b = 0; b < 256; b++) {
            boolean letter = b >= 'a' && b <= 'z';
            boolean digit = b >= '0' && b <= '9';
            boolean blank = b == 10 || b == 32;
            // Behind the word: a letter makes another word, digits make POSTS, of which 01 and 11 can be.
            boolean fine = blank || b == '0' || b == '1';
            oneByte(4, b, fine ? 0 : digit ? 2 : 1, fine ? -1 : letter ? 0 : 4);
            // The word's first byte.
            oneByte(0, b, b == 'p' ? 0 : 1, b == 'p' ? -1 : blank ? 1 : 0);
            // The NUMBER: without it the next one is taken for it, and the mark comes too early.
            oneByte(5, b, digit ? 0 : 1, digit ? -1 : blank ? 8 : 5);
            // The mark: without it the text ends too early.
            oneByte(8, b, b == ';' ? 0 : 1, b == ';' ? -1 : blank || digit ? 9 : 8);
        }
        Told.faulty(1, "pull 1 2;;", 1, 9);
        Told.faulty(1, ";", 1, 0);
        Told.faulty(1, "pull 1 2:", 1, 8);
    }

    /** One byte of a PULL's text is another one. */
    private static void oneByte(int place, int b, int fault, int faultPlace) {
        byte[] text = "pull 1 2;".getBytes(StandardCharsets.ISO_8859_1);
        text[place] = (byte) b;
        ChestnutLine x = new ChestnutLine();
        Told.feed(x, text);
        Told.due("byte " + b + " at " + place, x.text(1, -1), fault == 0 ? 0 : -1);
        Told.due("FAULT of byte " + b + " at " + place, x.fault(0), fault);
        Told.due("place of byte " + b + " at " + place, x.fault(1), faultPlace);
    }

    private static void digits() {
        Doc.term(1, "NUMBERS, 1 to 3 digits;", "(a longer row of digits is no token)");
        Told.fine(1, "pull 1 2;pull 01 02;pull 001 002;pull 015 005;");
        Told.faulty(1, "pull 0001 2;", 1, 5);
        Told.faulty(1, "pull 1 0002;", 1, 7);
        Told.faulty(1, "pull 1 2;0002", 1, 9);
        Told.fine(2, "seen 0 999;seen 0 099;");
        Told.faulty(2, "seen 0 1000;", 1, 7);
        Told.faulty(1, "pull 1 ;", 1, 7);
        Told.faulty(1, "pull 1 -2;", 1, 7);
        Told.faulty(1, "pull 1 /;", 1, 7);
        Told.faulty(1, "pull 1 :;", 1, 7);
        // 2 to the power of 32 and 1, and of 64 and 1: 1 again if bits of theirs were lost.
        Told.faulty(1, "pull 1 4294967297;", 1, 7);
        Told.faulty(1, "pull 1 18446744073709551617;", 1, 7);
        Told.faulty(1, "pull " + "1".repeat(590), 1, 5);
        Told.faulty(1, "pull 1 " + "0".repeat(593), 1, 7);
    }

    private static void rowsOfLines() {
        Doc.term(1, "A LINE's text: {('post' NUMBER NUMBER NUMBER | 'rider' NUMBER NUMBER NUMBER NUMBER NUMBER NUMBER | ('station'"
            + " | 'odds') NUMBER NUMBER | ('halt' | 'eat' | 'grace' | 'bishop' | 'other') NUMBER) ';'} (post: MINUTES, GRADE,"
            + " POUNDS; rider: on, off, POCKET, WISH, PATIENCE, FARE; station: a POST, its MINUTE; odds: a POST, how much;");
        String[] rows = {"post 4 3 2", "rider 1 2 3 4 5 6", "station 1 8", "odds 1 9", "halt 7", "eat 6", "grace 5",
            "bishop 4", "other 3"};
        StringBuilder all = new StringBuilder(TWO);
        for (String row : rows) {
            all.append(row).append(';');
            int head = TWO.length();
            Told.faulty(0, TWO + row, 1, head + row.length());
            Told.faulty(0, TWO + row + " 0;", 1, head + row.length() + 1);
            int cut = row.lastIndexOf(' ');
            Told.faulty(0, TWO + row.substring(0, cut) + ";", 1, head + cut);
            Told.faulty(0, TWO + row.substring(0, cut) + " a;", 1, head + cut + 1);
            Told.faulty(0, TWO + row.substring(0, row.indexOf(' ')) + "s" + row.substring(row.indexOf(' ')) + ";", 1, head);
            Told.faulty(0, TWO + "q" + row.substring(1) + ";", 1, head);
        }
        ChestnutLine x = Told.line(all.toString());
        Edge.row("line(0, ..)", what -> x.line(0, what), 0, 3, 1, 7, 6, 5, 4, 3, 2);
        Edge.row("post(0, 2, ..)", what -> x.post(0, 2, what), 0, 4, 3, 2);
        Edge.row("post(0, 1, ..)", what -> x.post(0, 1, what), 3, 9, 8);
        Edge.row("rider(0, 0, ..)", what -> x.rider(0, 0, what), 0, 1, 2, 3, 4, 5, 6);
        Doc.term(1, "POSTS are 0 .. 15).");
        String sixteen = POST.repeat(16);
        bounds(0, sixteen + "station ", " 5;", 0, 15, y -> Integer.numberOfTrailingZeros(y.line(0, 7)));
        bounds(0, sixteen + "odds ", " 5;", 0, 15, y -> y.post(0, 0, 3) == 5 ? 0 : y.post(0, 15, 3) == 5 ? 15 : -1);
    }

    private static void plans() {
        Doc.term(1, "A PLAN has PULLS, at most 16, from 0 on.");
        ChestnutLine x = new ChestnutLine();
        Told.due("16 PULLS", Told.text(x, 1, -1, "pull 3 4;" + ROWS[1].repeat(14) + "pull 15 5;"), 0);
        Told.due("how many", x.pull(0, -1, 0), 16);
        Told.due("PULL 0", x.pull(0, 0, 0), 3);
        Told.due("PULL 15", x.pull(0, 15, 0), 15);
        Told.due("PULL 16", x.pull(0, 16, 0), -2);
        Told.fine(1, "");
        Told.faulty(1, ROWS[1].repeat(17), 3, 144);
        Doc.term(1, "A PLAN's text: {'pull' NUMBER NUMBER ';'} (a POST, a RIDER, 0 .. 5).");
        bounds(1, "pull ", " 0;", 0, 15, y -> y.pull(0, 0, 0));
        bounds(1, "pull 0 ", ";", 0, 5, y -> y.pull(0, 0, 1));
        Told.faulty(1, "pull 0;", 1, 6);
        Told.faulty(1, "pull 0 0 0;", 1, 9);
        Told.faulty(1, POST, 1, 0);
        Doc.term(6, "A LOG has SEEN ones, at most 10, from 0 on: a POST, 0 .. 15, a MINUTE, 0 .. 999.",
            "A LOG's text: {'seen' NUMBER NUMBER ';'}; FAULT 3: an 11th SEEN, at its first token.");
        ChestnutLine z = new ChestnutLine();
        Told.due("10 SEEN ones", Told.text(z, 2, -1, "seen 3 4;" + ROWS[2].repeat(8) + "seen 15 999;"), 0);
        Told.due("how many", z.seen(0, -1, 0), 10);
        Told.due("SEEN 0", z.seen(0, 0, 0), 3);
        Told.due("SEEN 9", z.seen(0, 9, 1), 999);
        Told.due("SEEN 10", z.seen(0, 10, 0), -2);
        bounds(2, "seen ", " 0;", 0, 15, y -> y.seen(0, 0, 0));
        bounds(2, "seen 0 ", ";", 0, 999, y -> y.seen(0, 0, 1));
        Told.fine(2, "");
        Told.faulty(2, ROWS[2].repeat(11), 3, 90);
        Told.faulty(2, ROWS[2].repeat(10) + "seen 16 0;", 3, 90);
        Told.faulty(2, "seen 16 0;" + ROWS[2].repeat(10), 2, 5);
        Told.faulty(2, ROWS[2].repeat(11) + ";", 1, 99);
        Told.faulty(2, "seen 0;", 1, 6);
        Told.faulty(2, "seen 0 0 0;", 1, 9);
        Told.faulty(2, ROWS[1], 1, 0);
        Told.faulty(2, "sees 0;", 1, 0);
        Told.faulty(2, "halt 1;", 1, 0);
        Told.faulty(1, "halt 1;", 1, 0);
        Told.faulty(0, ROWS[2], 1, 0);
        Told.faulty(0, ROWS[1], 1, 0);
        Doc.term(1, "LINES, at most 2 (sort 0), PLANS, at most 2 (1), from 0 on.");
        Doc.term(6, "LOGS, at most 2 (sort 2), from 0 on.");
        ChestnutLine v = new ChestnutLine();
        for (int sort = 0; sort < 3; sort++) {
            String good = sort == 0 ? TWO : ROWS[sort];
            Told.due("a first of " + sort, Told.text(v, sort, -1, good), 0);
            Told.due("a second of " + sort, Told.text(v, sort, -1, good), 1);
            Told.due("a third of " + sort, Told.text(v, sort, -1, good), -2);
        }
    }

    private static void laterOnes() {
        Doc.term(1, "Later ones strike, but POSTS, RIDERS, PULLS, which are further ones.");
        ChestnutLine x = Told.line("halt 9;halt 1;eat 9;eat 0;grace 60;grace 0;bishop 9;bishop 0;other 9;other 0;" + TWO
            + "station 0 9;station 0 0;odds 1 9;odds 1 0;station 1 7;" + RIDER + "rider 0 1 9 1 0 0;" + POST);
        Edge.row("line(0, ..)", what -> x.line(0, what), 0, 3, 2, 1, 0, 0, 0, 0, 3);
        Told.due("the later printed MINUTE", x.post(0, 0, 4), 0);
        Told.due("that of another STATION", x.post(0, 1, 4), 7);
        Told.due("the later ODDS", x.post(0, 1, 3), 0);
        Told.due("RIDER 0", x.rider(0, 0, 2), 1);
        Told.due("RIDER 1", x.rider(0, 1, 2), 9);
        ChestnutLine y = new ChestnutLine();
        Told.text(y, 1, -1, "pull 1 1;pull 1 1;pull 1 2;");
        Told.due("PULLS", y.pull(0, -1, 0), 3);
        Told.text(y, 2, -1, "seen 1 1;seen 1 1;seen 1 2;");
        Told.due("SEEN ones", y.seen(0, -1, 0), 3);
    }

    // ---- term 1: FAULTS ----

    private static void firstFaults() {
        Doc.term(1, "FAULTS of both, with places (a token's first byte; the end's): 1 the first byte or token with which no text"
            + " goes on (a longer row of digits is no token).");
        Told.faulty(1, "pull 1 2;?pull", 1, 9);
        Told.faulty(1, "pull 1 2; ? ", 1, 10);
        Told.faulty(1, "pull 1 2; pul 3", 1, 10);
        Told.faulty(1, "pull 1 2; 17;", 1, 10);
        Told.faulty(1, "pull", 1, 4);
        Told.faulty(1, "pull \n", 1, 6);
        Told.faulty(1, "pull 1", 1, 6);
        Told.faulty(1, "pull 1 2", 1, 8);
        Told.faulty(1, "pull 1 2 ", 1, 9);
        Told.faulty(1, "pull 1 2 pull", 1, 9);
        // The first of two; and it goes before the FAULTS of other kinds, wherever these are.
        Told.faulty(1, "pull ; 5000", 1, 5);
        Told.faulty(1, "pull 16 6;?", 1, 10);
        Told.faulty(1, ROWS[1].repeat(17) + "?", 1, 153);
        Told.faulty(0, "?", 1, 0);
        Told.faulty(0, "station 15 0;?", 1, 13);
        Told.faulty(1, "pull 16 1000;", 1, 8);
        Doc.term(1, "If there is none, the first by place, of one place the least:");
        Told.faulty(0, "halt 0;" + POST.repeat(17), 2, 5);
        Told.faulty(0, POST.repeat(17) + "halt 0;", 3, 176);
        Told.faulty(0, RIDER.repeat(7) + POST.repeat(17), 3, 108);
        Told.faulty(0, POST.repeat(17) + RIDER.repeat(7), 3, 176);
        Told.faulty(0, "post 31 4 31;", 2, 5);
        Told.faulty(0, "post 30 4 31;", 2, 8);
        Told.faulty(0, "post 30 3 31;", 2, 10);
    }

    private static void numbersThatCantBe() {
        Doc.term(1, "2 a NUMBER that can't be (as above; off not above on; a line with such a NUMBER tells its POST, RIDER, PULL"
            + " all the same);");
        Told.faulty(0, "rider 0 0 1 1 0 0;", 2, 8);
        Told.faulty(0, "rider 5 4 1 1 0 0;", 2, 8);
        Told.faulty(0, "rider 15 15 1 1 0 0;", 2, 9);
        Told.faulty(0, "rider 15 16 1 1 0 0;", 2, 9);
        Told.faulty(0, "rider 16 16 1 1 0 0;", 2, 6);
        Told.faulty(0, POST.repeat(16) + "post 0 0 0;", 3, 176);
        Told.faulty(0, RIDER.repeat(6) + "rider 0 0 0 0 0 0;", 3, 108);
        Told.faulty(1, ROWS[1].repeat(16) + "pull 16 6;", 3, 144);
        Told.faulty(0, "post 0 0 0;" + POST.repeat(16), 2, 5);
        Told.faulty(0, "rider 0 1 0 1 0 0;" + RIDER.repeat(6), 2, 10);
        Told.faulty(1, "pull 0 6;" + ROWS[1].repeat(16), 2, 7);
        // Such a NUMBER told for what strikes is a FAULT even if a later one could be.
        Told.faulty(0, TWO + "halt 0;halt 1;", 2, 27);
        Told.faulty(0, TWO + "odds 0 11;odds 0 1;", 2, 29);
    }

    private static void tooMany() {
        Doc.term(1, "3 a 17th POST, a 7th RIDER, a 17th PULL, at its first token.");
        Told.fine(0, POST.repeat(16));
        Told.faulty(0, POST.repeat(16) + " \n" + POST, 3, 178);
        Told.faulty(0, POST.repeat(18), 3, 176);
        Told.fine(0, TWO + RIDER.repeat(6));
        Told.faulty(0, TWO + RIDER.repeat(6) + "  " + RIDER, 3, 132);
        Told.fine(1, ROWS[1].repeat(16));
        Told.faulty(1, ROWS[1].repeat(16) + " " + ROWS[1], 3, 145);
        Told.faulty(0, RIDER.repeat(7), 3, 108);
        Told.fine(2, ROWS[2].repeat(10));
    }

    private static void postsNotThere() {
        Doc.term(1, "If there is none of these, at the end's place: 4 of a LINE a POST that was told of and is not there, or fewer"
            + " than 2 POSTS.");
        Told.faulty(0, "", 4, 0);
        Told.faulty(0, "\n", 4, 1);
        Told.faulty(0, "halt 1;", 4, 7);
        Told.faulty(0, POST, 4, 11);
        Told.faulty(0, POST + " ", 4, 12);
        Told.fine(0, TWO);
        for (int posts : new int[] {2, 15}) {
            String line = POST.repeat(posts);
            String[] there = {"station " + (posts - 1) + " 0;", "odds " + (posts - 1) + " 0;",
                "rider 0 " + (posts - 1) + " 1 1 0 0;"};
            String[] not = {"station " + posts + " 0;", "odds " + posts + " 0;", "rider 0 " + posts + " 1 1 0 0;",
                "rider " + (posts - 1) + " " + posts + " 1 1 0 0;"};
            for (String row : there) {
                Told.fine(0, line + row);
                Told.fine(0, row + line);
            }
            for (String row : not) {
                Told.faulty(0, line + row, 4, line.length() + row.length());
                Told.faulty(0, row + line + "\n", 4, line.length() + row.length() + 1);
            }
        }
        Told.faulty(0, TWO + "rider 14 15 1 1 0 0;", 4, 42);
        Told.faulty(0, TWO + "station 2 0;station 1 0;", 4, 46);
        // Of a PLAN or a LOG a POST that no LINE has is none of these.
        Told.fine(1, "pull 15 5;");
        Told.fine(2, "seen 15 999;");
        Told.faulty(0, "station 15 0;post 0 0 0;", 2, 18);
        Told.faulty(0, "station 15 0;" + RIDER.repeat(7), 3, 121);
    }

    /** Each FAULT at the first and the last place where it can be. */
    private static void places() {
        Doc.term(1, "with places (a token's first byte; the end's)");
        Told.faulty(1, "\n\n  wrong", 1, 4);
        Told.faulty(0, "  halt \n  10 ;", 2, 10);
        Told.faulty(0, POST.repeat(16) + " ".repeat(600 - 11 * 17) + POST, 3, 589);
        Told.faulty(0, POST + " ".repeat(589), 4, 600);
        Told.faulty(1, " ".repeat(590) + "pull 16 0;", 2, 595);
    }
}
