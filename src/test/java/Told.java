import java.nio.charset.StandardCharsets;

/** What the tests share: feeding texts, comparing answers, counting what is wrong. */
final class Told {
    /** The line that the document's tests use: COSTS 3, 19, 5, 7; 22 minutes long. */
    static final String SAMPLE = "post 5 0 9;post 4 3 6;post 6 1 0;post 7 2 12;post 1 0 5;"
        + "station 0 0;station 2 12;station 4 25;rider 0 4 10 6 40 1;rider 1 3 20 3 15 5;"
        + "halt 3;eat 1;grace 2;bishop 2;odds 0 5;odds 1 2;other 20;";

    private static int wrong = 0;
    private static int asked = 0;
    private static String about = "";

    private Told() {
    }

    /** What the next answers are about: told where one is wrong. */
    static void about(String what) {
        about = "[" + what + "] ";
    }

    static void due(String call, long got, long want) {
        asked++;
        if (got != want) {
            wrong++;
            if (wrong <= 40) {
                System.out.println(about + call + " answered " + got + ", due is " + want);
            }
        }
    }

    static void due(String call, boolean got, boolean want) {
        due(call, got ? 1 : 0, want ? 1 : 0);
    }

    static void finish() {
        System.out.println(asked + " answers, " + wrong + " not as due");
        if (wrong != 0 || asked == 0) {
            System.exit(1);
        }
    }

    /** Puts bytes behind what the tape has. */
    static void feed(ChestnutLine x, byte[] bytes) {
        int before = x.feed(0, 0, 0, 0, 0) - 20;
        if (before < 0) {
            throw new IllegalStateException("the tape is too full for the tests' feed");
        }
        x.end(before);
        for (int from = 0; from < bytes.length; from += 20) {
            int[] words = new int[5];
            for (int i = 0; i < 20; i++) {
                int b = from + i < bytes.length ? bytes[from + i] & 255 : 0;
                words[i / 4] = words[i / 4] << 8 | b;
            }
            if (x.feed(words[0], words[1], words[2], words[3], words[4]) == ChestnutLine.NONE) {
                throw new IllegalStateException("a text of the tests is too long");
            }
        }
        x.end(before + bytes.length);
    }

    static void feed(ChestnutLine x, String text) {
        feed(x, text.getBytes(StandardCharsets.ISO_8859_1));
    }

    static int text(ChestnutLine x, int sort, int at, String text) {
        feed(x, text);
        return x.text(sort, at);
    }

    /** A text that is told, on a new object, without a FAULT. */
    static ChestnutLine line(String text) {
        ChestnutLine x = new ChestnutLine();
        due("text(0, NONE) of " + text, text(x, 0, -1, text), 0);
        return x;
    }

    /** A text that has a FAULT. */
    static void faulty(int sort, String text, int fault, int place) {
        ChestnutLine x = new ChestnutLine();
        due("text(" + sort + ", NONE) of " + text, text(x, sort, -1, text), -1);
        due("fault(0) of " + text, x.fault(0), fault);
        due("fault(1) of " + text, x.fault(1), place);
        due("count(" + sort + ") with " + text, x.count(sort), 0);
        due("the tape behind " + text, x.end(1), -1);
    }

    /** A text without a FAULT. */
    static void fine(int sort, String text) {
        ChestnutLine x = new ChestnutLine();
        due("text(" + sort + ", NONE) of " + text, text(x, sort, -1, text), 0);
        due("fault(0) of " + text, x.fault(0), 0);
        due("fault(1) of " + text, x.fault(1), -1);
        due("count(" + sort + ") with " + text, x.count(sort), 1);
    }
}
