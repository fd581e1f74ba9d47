/** Promises 1 to 5, 33 to 35: the tape, the texts and their FAULTS, counts and images. */
public final class TextTest {
    private static final String POST = "post 1 0 0;";
    private static final String TWO = POST + POST;

    public static void main(String[] args) {
        newObject();
        tape();
        tokens();
        numbersThatCantBe();
        tooMany();
        postsNotThere();
        firstFault();
        places();
        placesOfPairs();
        defaultsAndLaterOnes();
        images();
        imagesOfTapeAndFault();
        Told.finish();
    }

    private static void newObject() {
        ChestnutLine x = new ChestnutLine();
        Told.due("NONE", ChestnutLine.NONE, -1);
        for (int sort = 0; sort < 3; sort++) {
            Told.due("count(" + sort + ")", x.count(sort), 0);
        }
        Told.due("count(3)", x.count(3), -2);
        Told.due("count(-1)", x.count(-1), -2);
        Told.due("line(0, 0)", x.line(0, 0), -2);
        Told.due("pull(0, NONE, 0)", x.pull(0, -1, 0), -2);
        Told.due("seen(0, NONE, 0)", x.seen(0, -1, 0), -2);
        for (int k = -1; k < 4; k++) {
            Told.due("again(" + k + ")", x.again(k), false);
        }
        Told.due("fault(0)", x.fault(0), 0);
        Told.due("fault(1)", x.fault(1), -1);
        Told.due("fault(2)", x.fault(2), -1);
        Told.due("fault(-1)", x.fault(-1), -1);
        Told.due("end(0)", x.end(0), 0);
        Told.due("end(1)", x.end(1), -1);
    }

    private static void tape() {
        ChestnutLine x = new ChestnutLine();
        for (int i = 1; i <= 30; i++) {
            Told.due("feed " + i, x.feed(0x20202020, 0x20202020, 0x20202020, 0x20202020, 0x20202020), 20 * i);
        }
        Told.due("feed 31", x.feed(1, 2, 3, 4, 5), -1);
        Told.due("end(601)", x.end(601), -1);
        Told.due("end(-1)", x.end(-1), -1);
        Told.due("end(600)", x.end(600), 600);
        Told.due("end(581)", x.end(581), 581);
        Told.due("feed at 581", x.feed(1, 2, 3, 4, 5), -1);
        Told.due("end(580)", x.end(580), 580);
        Told.due("feed at 580", x.feed(0x706f7374, 0x20312030, 0x20303b70, 0x6f737420, 0x31203020), 600);
        Told.due("text", x.text(0, -1), -1);
        Told.due("the end's place", x.fault(1), 600);
        Told.due("end(1)", x.end(1), -1);
        Told.due("feed, highest byte first", x.feed(0x3b410000, 0, 0, 0, 0), 20);
        Told.due("text", x.text(1, -1), -1);
        Told.due("fault(1)", x.fault(1), 0);
    }

    private static void tokens() {
        Told.fine(1, "");
        Told.fine(2, "");
        Told.fine(1, " \n\n ");
        Told.fine(1, "pull0 0;");
        Told.fine(1, "\npull 000\n005 ; ");
        Told.fine(0, "post30 3 30;post 1 0 0 ;\n");
        Told.faulty(0, "pull 0 0;", 1, 0);
        Told.faulty(0, "seen 0 0;", 1, 0);
        Told.faulty(1, POST, 1, 0);
        Told.faulty(1, "seen 0 0;", 1, 0);
        Told.faulty(2, "pull 0 0;", 1, 0);
        Told.faulty(1, "pull 0;", 1, 6);
        Told.faulty(1, "pull 0 0 0;", 1, 9);
        Told.faulty(1, "pull 0 0", 1, 8);
        Told.faulty(1, "pull 0 0  ", 1, 10);
        Told.faulty(1, "pull", 1, 4);
        Told.faulty(1, "pu", 1, 0);
        Told.faulty(1, "pullx 0 0;", 1, 0);
        Told.faulty(1, "pull 0 0;;", 1, 9);
        Told.faulty(1, "pull 0 0; 7", 1, 10);
        Told.faulty(1, "Pull 0 0;", 1, 0);
        Told.faulty(1, "pulL 0 0;", 1, 0);
        Told.faulty(1, "pull\t0 0;", 1, 4);
        Told.faulty(1, "pull 0 0\u00e9;", 1, 8);
        Told.faulty(1, "pull 0 a;", 1, 7);
        Told.faulty(1, "pull 0 0a;", 1, 8);
        Told.faulty(1, "pull 0000 0;", 1, 5);
        Told.faulty(1, "pull 0 0;1234", 1, 9);
        Told.faulty(0, "station 0 1000;", 1, 10);
        Told.faulty(2, "seen 0 1000;", 1, 7);
        Told.faulty(0, TWO + "post 1 0;", 1, 30);
        Told.faulty(0, TWO + "halt 1 1;", 1, 29);
        Told.faulty(0, TWO + "halts 1;", 1, 22);
        Told.faulty(0, TWO + "rider 0 1 1 1 0;", 1, 37);
        Told.faulty(1, "pullz 0 0;", 1, 0);
        Told.faulty(1, "apull 0 0;", 1, 0);
        Told.faulty(1, "pull 0 0;{", 1, 9);
        Told.faulty(1, "pull 0 0;`", 1, 9);
        Told.faulty(1, "pull 0 /;", 1, 7);
        Told.faulty(1, "pull 0 :;", 1, 7);
        otherWords(1, "pull 0 0;");
        otherWords(2, "seen 0 0;");
        String[] rows = {"post 1 0 0;", "rider 0 1 1 1 0 0;", "station 0 0;", "odds 0 0;", "halt 1;", "eat 0;", "grace 0;",
            "bishop 0;", "other 0;"};
        for (String row : rows) {
            Told.fine(0, TWO + row);
            otherWords(0, row);
        }
        staleBytes();
    }

    /** Each letter of a word changed in turn: no such word goes on. */
    private static void otherWords(int sort, String row) {
        for (int i = 0; row.charAt(i) != ' '; i++) {
            Told.faulty(sort, row.substring(0, i) + "q" + row.substring(i + 1), 1, 0);
        }
    }

    /** Bytes behind the tape's end, of it or of an earlier one, are not read. */
    private static void staleBytes() {
        ChestnutLine x = new ChestnutLine();
        Told.due("a long text", Told.text(x, 1, -1, "pull 12 3;pull 14 5;"), 0);
        Told.due("a shorter one", Told.text(x, 1, -1, "pull 1"), -1);
        Told.due("its end", x.fault(1), 6);
        Told.due("a shorter word", Told.text(x, 1, -1, "pul"), -1);
        Told.due("its place", x.fault(1), 0);
        Told.feed(x, "pull 12 3;pull");
        x.end(10);
        Told.due("a tape cut short", x.text(1, -1), 1);
        Told.feed(x, "pull 12 34");
        x.end(9);
        x.feed(0x3b202020, 0x20202020, 0x20202020, 0x20202020, 0x20202020);
        Told.due("a tape cut short that goes on", x.text(1, 0), 0);
        Told.due("pull(0, 0, 1)", x.pull(0, 0, 1), 3);
        for (int last : new int[] {'a', '7', ' ', ';'}) {
            ChestnutLine y = new ChestnutLine();
            for (int i = 0; i < 30; i++) {
                y.feed(0x0a0a0a0a, 0x20202020, 0x0a0a0a0a, 0x20202020, 0x20202000 + (i == 29 ? last : 32));
            }
            Told.due("a full tape", y.text(1, -1), last == ' ' ? 0 : -1);
            Told.due("a full tape's FAULT", y.fault(1), last == ' ' ? -1 : 599);
        }
    }

    private static void numbersThatCantBe() {
        Told.faulty(0, "post 0 0 0;", 2, 5);
        Told.faulty(0, "post 31 0 0;", 2, 5);
        Told.faulty(0, "post 1 4 0;", 2, 7);
        Told.faulty(0, "post 1 0 31;", 2, 9);
        Told.faulty(0, "rider 0 0 1 1 0 0;", 2, 8);
        Told.faulty(0, "rider 2 1 1 1 0 0;", 2, 8);
        Told.faulty(0, "rider 16 1 1 1 0 0;", 2, 6);
        Told.faulty(0, "rider 0 16 1 1 0 0;", 2, 8);
        Told.faulty(0, "rider 15 15 1 1 0 0;", 2, 9);
        Told.faulty(0, "rider 0 1 0 1 0 0;", 2, 10);
        Told.faulty(0, "rider 0 1 61 1 0 0;", 2, 10);
        Told.faulty(0, "rider 0 1 1 0 0 0;", 2, 12);
        Told.faulty(0, "rider 0 1 1 31 0 0;", 2, 12);
        Told.faulty(0, "rider 0 1 1 1 201 0;", 2, 14);
        Told.faulty(0, "rider 0 1 1 1 0 10;", 2, 16);
        Told.faulty(0, "station 16 0;", 2, 8);
        Told.faulty(0, "odds 16 0;", 2, 5);
        Told.faulty(0, "odds 0 11;", 2, 7);
        Told.faulty(0, "halt 0;", 2, 5);
        Told.faulty(0, "halt 10;", 2, 5);
        Told.faulty(0, "eat 10;", 2, 4);
        Told.faulty(0, "grace 61;", 2, 6);
        Told.faulty(0, "bishop 10;", 2, 7);
        Told.faulty(1, "pull 16 0;", 2, 5);
        Told.faulty(1, "pull 0 6;", 2, 7);
        Told.faulty(2, "seen 16 0;", 2, 5);
        Told.fine(0, "post 1 0 0;post 30 3 30;halt 1;halt 9;eat 9;grace 60;bishop 9;other 999;other 0;"
            + "rider 0 1 60 30 200 9;rider 0 1 1 1 0 0;station 0 999;station 1 0;odds 0 10;odds 1 0;");
        Told.fine(1, "pull 15 5;pull 0 0;");
        Told.fine(2, "seen 15 999;seen 0 0;");
    }

    private static void tooMany() {
        Told.fine(0, POST.repeat(16));
        Told.faulty(0, POST.repeat(17), 3, 176);
        Told.fine(0, TWO + "rider 0 1 1 1 0 0;".repeat(6));
        Told.faulty(0, "rider 0 1 1 1 0 0;".repeat(7), 3, 108);
        Told.fine(1, "pull 0 0;".repeat(16));
        Told.faulty(1, "pull 0 0;".repeat(17), 3, 144);
        Told.fine(2, "seen 0 0;".repeat(10));
        Told.faulty(2, "seen 0 0;".repeat(11), 3, 90);
    }

    private static void postsNotThere() {
        Told.faulty(0, "", 4, 0);
        Told.faulty(0, "  ", 4, 2);
        Told.faulty(0, POST, 4, 11);
        Told.faulty(0, POST + "\n ", 4, 13);
        Told.faulty(0, TWO + "station 2 0;", 4, 34);
        Told.faulty(0, TWO + "odds 2 0;", 4, 31);
        Told.faulty(0, TWO + "rider 0 2 1 1 0 0;", 4, 40);
        Told.fine(0, "rider 0 2 1 1 0 0;station 2 0;odds 2 0;" + TWO + POST);
    }

    private static void firstFault() {
        Told.faulty(0, "post 0 0 0;post 1 0;", 1, 19);
        Told.faulty(0, POST.repeat(17) + "x", 1, 187);
        Told.faulty(0, POST.repeat(16) + "post 0 0 0;", 3, 176);
        Told.faulty(0, "post 0 0 0;".repeat(17), 2, 5);
        Told.faulty(0, POST.repeat(17) + "halt 0;", 3, 176);
        Told.faulty(0, "halt 0;" + POST.repeat(17), 2, 5);
        Told.faulty(0, "station 15 0;halt 0;", 2, 18);
        Told.faulty(0, "post 31 4 31;", 2, 5);
        Told.faulty(1, "pull 0 0;".repeat(16) + "pull 16 6;", 3, 144);
    }

    private static void places() {
        ChestnutLine x = new ChestnutLine();
        refused(new ChestnutLine(), 3, -1, TWO);
        refused(new ChestnutLine(), -1, -1, TWO);
        refused(new ChestnutLine(), 3, 0, TWO);
        refused(new ChestnutLine(), Integer.MIN_VALUE, -1, TWO);
        refused(new ChestnutLine(), Integer.MAX_VALUE, -1, TWO);
        refused(x, 0, 0, TWO);
        refused(x, 0, -2, TWO);
        Told.due("text(0, NONE)", Told.text(x, 0, -1, TWO), 0);
        Told.due("the tape is taken", x.end(1), -1);
        refused(x, 0, 1, TWO + POST);
        Told.due("text(0, NONE)", Told.text(x, 0, -1, TWO + POST), 1);
        Told.due("line(1, 0)", x.line(1, 0), 3);
        refused(x, 0, -1, POST.repeat(4));
        refused(x, 0, 2, POST.repeat(4));
        refused(x, 0, Integer.MAX_VALUE, POST.repeat(4));
        refused(x, 0, Integer.MIN_VALUE, POST.repeat(4));
        Told.due("text(0, 0)", Told.text(x, 0, 0, POST.repeat(4)), 0);
        Told.due("line(0, 0)", x.line(0, 0), 4);
        Told.due("text(0, 1) faulty", Told.text(x, 0, 1, "x"), -1);
        Told.due("line(1, 0) stays", x.line(1, 0), 3);
        Told.due("count(0)", x.count(0), 2);
    }

    private static void placesOfPairs() {
        ChestnutLine x = new ChestnutLine();
        for (int sort = 1; sort < 3; sort++) {
            String row = sort == 1 ? "pull 1 2;" : "seen 1 2;";
            refused(x, sort, 0, row);
            Told.due("a first", Told.text(x, sort, -1, row), 0);
            Told.due("a second", Told.text(x, sort, -1, row + row), 1);
            refused(x, sort, -1, row);
            Told.due("in place", Told.text(x, sort, 1, row), 1);
            Told.due("count(" + sort + ")", x.count(sort), 2);
        }
        Told.due("pull(1, NONE, 0)", x.pull(1, -1, 0), 1);
        Told.due("seen(1, NONE, 0)", x.seen(1, -1, 0), 1);
    }

    /** A text() that answers -2 reads nothing and has no FAULT, but it takes the tape, whatever that has. */
    private static void refused(ChestnutLine x, int sort, int at, String text) {
        String call = "text(" + sort + ", " + at + ")";
        int[] counts = {x.count(0), x.count(1), x.count(2)};
        for (String tape : new String[] {"", text, text + "no such"}) {
            // An earlier FAULT, so that it is seen to go.
            Told.due("a FAULT ahead of " + call, Told.text(x, 0, x.count(0) == 2 ? 1 : -1, "halt 0;"), -1);
            Told.due("fault(0) ahead of " + call, x.fault(0), 2);
            Told.due(call + " of " + tape, Told.text(x, sort, at, tape), -2);
            Told.due("fault(0) behind " + call, x.fault(0), 0);
            Told.due("fault(1) behind " + call, x.fault(1), -1);
            Told.due("the tape behind " + call, x.end(1), -1);
            Told.due("a tape fed behind " + call, x.feed(0, 0, 0, 0, 0), 20);
            Told.due("the tape's end", x.end(0), 0);
        }
        for (int i = 0; i < counts.length; i++) {
            Told.due("count(" + i + ") behind " + call, x.count(i), counts[i]);
        }
    }

    private static void defaultsAndLaterOnes() {
        ChestnutLine x = Told.line(TWO);
        int[] defaults = {2, 0, 2, 0, 0, 0, -1, 0};
        for (int what = 0; what < defaults.length; what++) {
            Told.due("line(0, " + what + ")", x.line(0, what), defaults[what]);
        }
        Told.text(x, 0, 0, "halt 3;halt 4;eat 1;eat 2;grace 3;grace 4;bishop 5;bishop 6;other 7;other 8;"
            + "station 1 1;station 1 2;odds 1 1;odds 1 2;" + TWO);
        int[] later = {2, 0, 4, 2, 4, 6, 8, 2};
        for (int what = 0; what < later.length; what++) {
            Told.due("line(0, " + what + ")", x.line(0, what), later[what]);
        }
        Told.due("post(0, 1, 3)", x.post(0, 1, 3), 2);
        Told.due("post(0, 1, 4)", x.post(0, 1, 4), 2);
        Told.text(x, 0, 0, TWO);
        for (int what = 0; what < defaults.length; what++) {
            Told.due("line(0, " + what + ") anew", x.line(0, what), defaults[what]);
        }
        Told.due("post(0, 1, 3) anew", x.post(0, 1, 3), 0);
        Told.due("post(0, 1, 4) anew", x.post(0, 1, 4), -1);
    }

    private static void images() {
        ChestnutLine x = new ChestnutLine();
        Told.due("image(-1)", x.image(-1), false);
        Told.due("image(3)", x.image(3), false);
        Told.due("image(0)", x.image(0), true);
        Told.text(x, 0, -1, Told.SAMPLE);
        Told.text(x, 0, -1, TWO);
        Told.text(x, 1, -1, "pull 1 2;pull 3 4;");
        Told.text(x, 2, -1, "seen 5 6;");
        Told.due("image(1)", x.image(1), true);
        Told.due("again(2)", x.again(2), false);
        Told.due("again(0)", x.again(0), true);
        for (int sort = 0; sort < 3; sort++) {
            Told.due("count(" + sort + ")", x.count(sort), 0);
        }
        Told.due("text", Told.text(x, 0, -1, TWO + POST), 0);
        Told.due("again(1)", x.again(1), true);
        Told.due("count(0)", x.count(0), 2);
        Told.due("count(1)", x.count(1), 1);
        Told.due("count(2)", x.count(2), 1);
        Told.due("line(0, 0)", x.line(0, 0), 5);
        Told.due("line(0, 1)", x.line(0, 1), 2);
        Told.due("line(0, 6)", x.line(0, 6), 20);
        Told.due("post(0, 3, 2)", x.post(0, 3, 2), 12);
        Told.due("post(0, 1, 3)", x.post(0, 1, 3), 2);
        Told.due("rider(0, 1, 2)", x.rider(0, 1, 2), 20);
        Told.due("rider(0, 1, 4)", x.rider(0, 1, 4), 15);
        Told.due("line(1, 0)", x.line(1, 0), 2);
        Told.due("pull(0, 1, 1)", x.pull(0, 1, 1), 4);
        Told.due("seen(0, 0, 1)", x.seen(0, 0, 1), 6);
        Told.text(x, 0, 0, TWO);
        Told.due("again(1)", x.again(1), true);
        Told.due("line(0, 0)", x.line(0, 0), 5);
        Told.due("again(0)", x.again(0), true);
        Told.due("image(1) anew", x.image(1), true);
        Told.due("again(1)", x.again(1), true);
        Told.due("count(0)", x.count(0), 0);
    }

    private static void imagesOfTapeAndFault() {
        ChestnutLine x = new ChestnutLine();
        Told.text(x, 1, -1, "pull 0;");
        Told.feed(x, "pull 0 1;");
        x.image(2);
        Told.due("text", x.text(1, -1), 0);
        Told.due("fault(0)", x.fault(0), 0);
        Told.feed(x, "seen 7 7;seen 7 7;");
        Told.due("again(2)", x.again(2), true);
        Told.due("fault(0)", x.fault(0), 1);
        Told.due("fault(1)", x.fault(1), 6);
        Told.due("count(1)", x.count(1), 0);
        Told.due("end(10)", x.end(10), -1);
        Told.due("text", x.text(1, -1), 0);
        Told.due("pull(0, 0, 1)", x.pull(0, 0, 1), 1);
    }
}
