import java.util.ArrayList;
import java.util.Comparator;
import java.util.List;
import java.util.Map;
import java.util.regex.Matcher;
import java.util.regex.Pattern;

/** Texts by the words of term 1 and 6 once more: tokens first, then the form of all of them, then all FAULTS by place. */
final class NaiveReader {
    private static final int[] POST = {0, 15};
    private static final int[] MINUTE = {0, 999};

    /** The least and the highest of each NUMBER behind a word. */
    static final Map<String, int[][]> BOUNDS = Map.ofEntries(
        Map.entry("post", new int[][] {{1, 30}, {0, 3}, {0, 30}}),
        Map.entry("rider", new int[][] {POST, POST, {1, 60}, {1, 30}, {0, 200}, {0, 9}}),
        Map.entry("station", new int[][] {POST, MINUTE}),
        Map.entry("odds", new int[][] {POST, {0, 10}}),
        Map.entry("halt", new int[][] {{1, 9}}),
        Map.entry("eat", new int[][] {{0, 9}}),
        Map.entry("grace", new int[][] {{0, 60}}),
        Map.entry("bishop", new int[][] {{0, 9}}),
        Map.entry("other", new int[][] {MINUTE}),
        Map.entry("pull", new int[][] {POST, {0, 5}}),
        Map.entry("seen", new int[][] {POST, MINUTE}));

    private static final Map<String, Integer> MOST = Map.of("post", 16, "rider", 6, "pull", 16, "seen", 10);

    /* Each token one sign: a word its capital (Other: T, Pull: L, Seen: N), a NUMBER 9, what is no token !. */
    private static final Map<String, String> SIGNS = Map.ofEntries(Map.entry("post", "P"), Map.entry("rider", "R"),
        Map.entry("station", "S"), Map.entry("odds", "O"), Map.entry("halt", "H"), Map.entry("eat", "E"),
        Map.entry("grace", "G"), Map.entry("bishop", "B"), Map.entry("other", "T"), Map.entry("pull", "L"),
        Map.entry("seen", "N"));
    private static final Pattern[] FORMS = {Pattern.compile("((P999|R999999|[SO]99|[HEGBT]9);)*"),
        Pattern.compile("(L99;)*"), Pattern.compile("(N99;)*")};

    private record Token(String text, int place) {
        String sign() {
            if (text.matches("[0-9]{1,3}")) {
                return "9";
            }
            return text.equals(";") ? ";" : SIGNS.getOrDefault(text, "!");
        }
    }

    private record Row(String word, int[] numbers) {
    }

    private final List<Token> tokens = new ArrayList<>();
    private final List<Row> rows = new ArrayList<>();
    private final List<int[]> faults = new ArrayList<>();
    int fault;
    int place = -1;

    NaiveReader(int sort, String text) {
        Matcher matcher = Pattern.compile("[a-z]+|[0-9]+|(?s:[^ \n])").matcher(text);
        while (matcher.find()) {
            tokens.add(new Token(matcher.group(), matcher.start()));
        }
        int wrong = firstWrong(FORMS[sort]);
        if (wrong >= 0) {
            faults.add(new int[] {1, wrong < tokens.size() ? tokens.get(wrong).place : text.length()});
        } else {
            readRows();
            if (faults.isEmpty() && sort == 0 && postIsMissing()) {
                faults.add(new int[] {4, text.length()});
            }
        }
        faults.sort(Comparator.<int[]>comparingInt(f -> f[1]).thenComparingInt(f -> f[0]));
        if (!faults.isEmpty()) {
            fault = faults.get(0)[0];
            place = faults.get(0)[1];
        }
    }

    /** The first token behind which no text of the form can go on, the end being the one behind the last; -1: none. */
    private int firstWrong(Pattern form) {
        StringBuilder signs = new StringBuilder();
        for (int i = 0; i < tokens.size(); i++) {
            signs.append(tokens.get(i).sign());
            Matcher matcher = form.matcher(signs);
            if (!matcher.matches() && !matcher.hitEnd()) {
                return i;
            }
        }
        return form.matcher(signs).matches() ? -1 : tokens.size();
    }

    private void readRows() {
        int at = 0;
        while (at < tokens.size()) {
            Token word = tokens.get(at);
            int[][] bounds = BOUNDS.get(word.text);
            int[] numbers = new int[bounds.length];
            for (int i = 0; i < numbers.length; i++) {
                Token number = tokens.get(at + 1 + i);
                numbers[i] = Integer.parseInt(number.text);
                boolean notAbove = word.text.equals("rider") && i == 1 && numbers[1] <= numbers[0];
                if (numbers[i] < bounds[i][0] || numbers[i] > bounds[i][1] || notAbove) {
                    faults.add(new int[] {2, number.place});
                }
            }
            rows.add(new Row(word.text, numbers));
            if (rows(word.text).size() > MOST.getOrDefault(word.text, 1000)) {
                faults.add(new int[] {3, word.place});
            }
            at += numbers.length + 2;
        }
    }

    private boolean postIsMissing() {
        int posts = rows("post").size();
        boolean missing = posts < 2;
        for (Row row : rows) {
            boolean tellsOf = List.of("station", "odds", "rider").contains(row.word);
            missing |= tellsOf && row.numbers[0] >= posts;
            missing |= row.word.equals("rider") && row.numbers[1] >= posts;
        }
        return missing;
    }

    /** The NUMBERS of all rows with a word. */
    List<int[]> rows(String word) {
        List<int[]> found = new ArrayList<>();
        for (Row row : rows) {
            if (row.word.equals(word)) {
                found.add(row.numbers);
            }
        }
        return found;
    }

    int last(String word, int without) {
        List<int[]> found = rows(word);
        return found.isEmpty() ? without : found.get(found.size() - 1)[0];
    }

    int lastOf(String word, int post, int without) {
        int last = without;
        for (int[] numbers : rows(word)) {
            last = numbers[0] == post ? numbers[1] : last;
        }
        return last;
    }
}
