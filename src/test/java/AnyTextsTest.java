import java.nio.charset.StandardCharsets;
import java.util.List;
import java.util.Random;

/** Promises 4 to 8, 19, 27: texts drawn with fixed seeds, right and wrong ones, against the naive reader. */
public final class AnyTextsTest {
    private static final String[] WORDS = {"post", "rider", "station", "odds", "halt", "eat", "grace", "bishop", "other",
        "pull", "seen"};
    private static final String[] STRANGE = {"pos", "postt", "Post", ";", ";;", "1000", "0000", "\t", "\r", "\u0000", "\u00a0",
        "\u00ff", "-1", "1.5", ",", "post;", "rider 0", "pull 1 2", "seen"};

    private static final int[] FOUND = new int[5];

    public static void main(String[] args) {
        for (int seed = 0; seed < 6000; seed++) {
            Random random = new Random(seed);
            int sort = random.nextInt(3);
            String text = random.nextInt(4) == 0 ? spoilt(anyText(random, sort), random) : anyText(random, sort);
            compare(sort, text.length() > 600 ? text.substring(0, 600) : text, "seed " + seed);
        }
        for (int fault = 0; fault < FOUND.length; fault++) {
            Told.due("some texts with FAULT " + fault + ": " + FOUND[fault], FOUND[fault] > 100, true);
        }
        Told.finish();
    }

    /** The tape has 600 bytes only if all of them come in twenties. */
    private static void feedWhole(ChestnutLine x, String text) {
        byte[] bytes = text.getBytes(StandardCharsets.ISO_8859_1);
        for (int from = 0; from < bytes.length; from += 20) {
            int[] words = new int[5];
            for (int i = 0; i < 20; i++) {
                words[i / 4] = words[i / 4] << 8 | (from + i < bytes.length ? bytes[from + i] & 255 : '7');
            }
            Told.due("feed", x.feed(words[0], words[1], words[2], words[3], words[4]), from + 20);
        }
        Told.due("end", x.end(bytes.length), bytes.length);
    }

    private static void compare(int sort, String text, String seed) {
        Told.about(seed + ", sort " + sort + ": " + text);
        NaiveReader due = new NaiveReader(sort, text);
        FOUND[due.fault]++;
        ChestnutLine x = new ChestnutLine();
        feedWhole(x, text);
        Told.due("text", x.text(sort, -1), due.fault == 0 ? 0 : -1);
        Told.due("FAULT", x.fault(0), due.fault);
        Told.due("its place", x.fault(1), due.place);
        Told.due("count", x.count(sort), due.fault == 0 ? 1 : 0);
        Told.due("the tape behind it", x.end(1), -1);
        if (due.fault == 0 && sort == 0) {
            compareLine(x, due);
        } else if (due.fault == 0) {
            comparePairs(x, sort, due.rows(sort == 1 ? "pull" : "seen"));
        }
    }

    private static void compareLine(ChestnutLine x, NaiveReader due) {
        List<int[]> posts = due.rows("post");
        List<int[]> riders = due.rows("rider");
        int stations = 0;
        for (int p = 0; p < posts.size(); p++) {
            for (int what = 0; what < 3; what++) {
                Told.due("post " + p + ", " + what, x.post(0, p, what), posts.get(p)[what]);
            }
            int printed = due.lastOf("station", p, -1);
            Told.due("odds " + p, x.post(0, p, 3), due.lastOf("odds", p, 0));
            Told.due("printed " + p, x.post(0, p, 4), printed);
            stations |= printed == -1 ? 0 : 1 << p;
        }
        for (int r = 0; r < riders.size(); r++) {
            for (int what = 0; what < 6; what++) {
                Told.due("rider " + r + ", " + what, x.rider(0, r, what), riders.get(r)[what]);
            }
        }
        int[] whats = {posts.size(), riders.size(), due.last("halt", 2), due.last("eat", 0), due.last("grace", 0),
            due.last("bishop", 0), due.last("other", -1), stations};
        for (int what = 0; what < whats.length; what++) {
            Told.due("line " + what, x.line(0, what), whats[what]);
        }
        Told.due("post behind the last", x.post(0, posts.size(), 0), -2);
        Told.due("rider behind the last", x.rider(0, riders.size(), 0), -1);
    }

    private static void comparePairs(ChestnutLine x, int sort, List<int[]> rows) {
        Told.due("how many", pair(x, sort, -1, 0), rows.size());
        for (int k = 0; k < rows.size(); k++) {
            Told.due("first of " + k, pair(x, sort, k, 0), rows.get(k)[0]);
            Told.due("second of " + k, pair(x, sort, k, 1), rows.get(k)[1]);
        }
        Told.due("behind the last", pair(x, sort, rows.size(), 0), -2);
    }

    private static int pair(ChestnutLine x, int sort, int k, int what) {
        return sort == 1 ? x.pull(0, k, what) : x.seen(0, k, what);
    }

    /** Rows of the sort, as many as may be or some more, few of them with a NUMBER that can't be. */
    private static String anyText(Random random, int sort) {
        StringBuilder text = new StringBuilder(blanks(random, true));
        int wrong = random.nextInt(3) == 0 ? 25 : 1000000;
        int posts = sort != 0 ? 0 : random.nextInt(8) == 0 ? random.nextInt(3) : 2 + random.nextInt(16);
        for (int p = 0; p < posts; p++) {
            row(text, random, 0, 16, wrong);
        }
        int rows = random.nextInt(sort == 0 ? 14 : sort == 1 ? 19 : 13);
        for (int i = 0; i < rows; i++) {
            // POSTS that are there, mostly: one that is not is FAULT 4, which hides nothing else.
            int word = sort == 0 ? random.nextInt(9) : 8 + sort;
            row(text, random, word, sort == 0 && random.nextInt(20) != 0 ? Math.max(2, posts) : 16, wrong);
        }
        return text.toString();
    }

    private static void row(StringBuilder text, Random random, int word, int posts, int wrong) {
        text.append(WORDS[word]);
        int[][] bounds = NaiveReader.BOUNDS.get(WORDS[word]);
        int before = 0;
        for (int i = 0; i < bounds.length; i++) {
            int low = i == 1 && word == 1 ? Math.min(before + 1, posts - 1) : bounds[i][0];
            int high = bounds[i][1] == 15 ? posts - 1 : bounds[i][1];
            int value = low + random.nextInt(Math.max(1, high - low + (i == 0 && word == 1 ? 0 : 1)));
            value = random.nextInt(4) == 0 ? high : value;
            value = random.nextInt(wrong) == 0 ? bounds[i][1] + 1 : value;
            value = random.nextInt(wrong) == 0 ? Math.max(0, low - 1) : value;
            before = value;
            String zeros = value < 10 && random.nextInt(20) == 0 ? "00" : "";
            text.append(blanks(random, i > 0)).append(zeros).append(value);
        }
        text.append(random.nextInt(9) == 0 ? " " : "").append(';').append(random.nextInt(9) == 0 ? "\n" : "");
    }

    private static String blanks(Random random, boolean needed) {
        int kind = random.nextInt(12);
        return kind == 0 ? "\n" : kind == 1 ? "  " : kind == 2 && !needed ? "" : kind == 3 ? " \n " : " ";
    }

    /** One thing wrong: a byte, a piece out, a piece in, the end cut off. */
    private static String spoilt(String text, Random random) {
        int at = random.nextInt(text.length() + 1);
        int to = Math.min(text.length(), at + 1 + random.nextInt(6));
        switch (random.nextInt(5)) {
            case 0: return text.substring(0, at) + (char) random.nextInt(256) + text.substring(to);
            case 1: return text.substring(0, at) + text.substring(to);
            case 2: return text.substring(0, at) + STRANGE[random.nextInt(STRANGE.length)] + text.substring(at);
            case 3: return text.substring(0, at) + " " + WORDS[random.nextInt(WORDS.length)] + " " + text.substring(at);
            default: return text.substring(0, at);
        }
    }
}
