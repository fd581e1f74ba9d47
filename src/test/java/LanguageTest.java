import java.io.IOException;
import java.lang.reflect.Field;
import java.lang.reflect.Member;
import java.lang.reflect.Method;
import java.lang.reflect.Modifier;
import java.nio.file.Files;
import java.nio.file.Path;
import java.util.ArrayList;
import java.util.List;
import java.util.Set;
import java.util.TreeSet;
import java.util.regex.Matcher;
import java.util.regex.Pattern;

/** The face of the document, and those rules of LANGUAGE.md that can be read off the source or the class. */
public final class LanguageTest {
    private static final int MOST_LINES = 60;

    public static void main(String[] args) throws IOException {
        String doc = Files.readString(Path.of("../shared/DOC.md"));
        String source = Files.readString(Path.of("src/main/java/ChestnutLine.java"));
        face(doc);
        members();
        words(withoutComments(source));
        lengths(source);
        Told.finish();
    }

    private static void face(String doc) {
        Set<String> due = new TreeSet<>();
        Matcher promised = Pattern.compile("(?m)^    public (\\w+ \\w+\\([^)]*\\));").matcher(doc);
        while (promised.find()) {
            // The names of the parameters alone go: each has a comma or the bracket behind it.
            due.add(promised.group(1).replaceAll(" \\w+(?=[,)])", "").replace(", ", ","));
        }
        Set<String> found = new TreeSet<>();
        for (Method method : ChestnutLine.class.getDeclaredMethods()) {
            if (!Modifier.isPrivate(method.getModifiers())) {
                List<String> types = new ArrayList<>();
                for (Class<?> type : method.getParameterTypes()) {
                    types.add(type.getName());
                }
                found.add(method.getReturnType() + " " + method.getName() + "(" + String.join(",", types) + ")");
            }
        }
        Told.due("methods of the face: " + found, found.size(), due.size());
        for (String method : found) {
            Told.due("the document has " + method, due.contains(method), true);
        }
        Told.due("public constructors", ChestnutLine.class.getConstructors().length, 1);
        Told.due("final", Modifier.isFinal(ChestnutLine.class.getModifiers()), true);
    }

    private static void members() {
        Set<String> publicNames = new TreeSet<>();
        for (Method method : ChestnutLine.class.getMethods()) {
            publicNames.add(method.getName());
        }
        fields(ChestnutLine.class);
        for (Method method : ChestnutLine.class.getDeclaredMethods()) {
            method(method, publicNames);
        }
        Class<?>[] inside = ChestnutLine.class.getDeclaredClasses();
        Told.due("some twelve classes", inside.length <= 11, true);
        for (Class<?> nested : inside) {
            Told.due(nested + " is static", Modifier.isStatic(nested.getModifiers()), true);
            Told.due(nested + " is not public", Modifier.isPublic(nested.getModifiers()), false);
            fields(nested);
            for (Method method : nested.getDeclaredMethods()) {
                Told.due(method + " bears a public name", publicNames.contains(method.getName()), false);
                method(method, publicNames);
            }
        }
    }

    private static void fields(Class<?> type) {
        int many = 0;
        for (Field field : type.getDeclaredFields()) {
            if (Modifier.isStatic(field.getModifiers())) {
                Told.due(field + " is final", Modifier.isFinal(field.getModifiers()), true);
                Told.due(field + " is a number", field.getType() == int.class, true);
            } else {
                many++;
            }
            if (type == ChestnutLine.class && !field.getName().equals("NONE")) {
                isPrivate(field);
            }
        }
        Told.due(type + " has some twenty fields", many <= 20, true);
    }

    private static void method(Method method, Set<String> publicNames) {
        Told.due(method + " has seven parameters at most", method.getParameterCount() <= 7, true);
        if (Modifier.isPrivate(method.getModifiers())) {
            Told.due(method + " bears a public name", publicNames.contains(method.getName()), false);
        } else if (method.getDeclaringClass() == ChestnutLine.class) {
            Told.due(method + " is public", Modifier.isPublic(method.getModifiers()), true);
        }
    }

    private static void isPrivate(Member member) {
        Told.due(member + " is private", Modifier.isPrivate(member.getModifiers()), true);
    }

    private static String withoutComments(String source) {
        return source.replaceAll("(?s)/\\*.*?\\*/", "").replaceAll("//[^\n]*", "");
    }

    private static void words(String code) {
        String[] none = {"\\bthrow", "\\btry\\b", "\\bcatch\\b", "\\bassert\\b", "\\bsynchronized\\b", "\\bimport\\b",
            "\\bpackage\\b", "->", "::", "\\bdouble\\b", "\\bfloat\\b", "\\bprotected\\b", "\\bObject\\b", "Exact\\b",
            "\\bequals\\b", "\\bhashCode\\b", "\\btoString\\b", "\\bstatic \\{", "\\bRandom\\b", "\\bSystem\\.(?!arraycopy)",
            "\"\\s*\\+", "\\+\\s*\"", "while \\(true\\)", "for \\(;;\\)"};
        for (String word : none) {
            Told.due("no " + word, Pattern.compile(word).matcher(code).find(), false);
        }
        // Rows are made with the object, in fields alone: no call makes anything.
        for (String line : code.split("\n")) {
            boolean field = line.matches("\\s*(private )?final [\\w\\[\\]]+ \\w+ = .*");
            Told.due("made in a call: " + line.trim(), line.contains("new ") && !field, false);
        }
        Told.due("signs of the source", code.chars().allMatch(c -> c == 10 || c >= 32 && c < 127), true);
    }

    private static void lengths(String source) {
        Pattern head = Pattern.compile("^( {4}| {8})(public|private|static|int|void|boolean|long|Line|Pairs)\\b.*\\) \\{$");
        String[] lines = source.split("\n");
        for (int i = 0; i < lines.length; i++) {
            Matcher matcher = head.matcher(lines[i]);
            if (matcher.matches()) {
                int end = i;
                while (!lines[end].equals(matcher.group(1) + "}")) {
                    end++;
                }
                Told.due("short: " + lines[i].trim(), end - i <= MOST_LINES, true);
            }
        }
    }
}
