import java.io.IOException;
import java.lang.reflect.Array;
import java.lang.reflect.Field;
import java.lang.reflect.Member;
import java.lang.reflect.Method;
import java.lang.reflect.Modifier;
import java.nio.file.Files;
import java.nio.file.Path;
import java.util.ArrayList;
import java.util.List;
import java.util.Map;
import java.util.Set;
import java.util.TreeMap;
import java.util.TreeSet;
import java.util.regex.Matcher;
import java.util.regex.Pattern;

/** The face of the document, and those rules of LANGUAGE.md that can be read off the source or the class. */
public final class LanguageTest {
    private static final int MOST_LINES = 60;
    private static final int MOST_DEEP = 8;
    /* As many objects as a run of calls can make, each with a call at least: all of them have to fit into the room. */
    private static final int MOST_MADE = 512;
    private static final int ROOM_FOR_OBJECTS = 600_000;
    private static final int ROOM_FOR_FIELDS = 7_300_000;

    private static int objects = 0;
    private static int elements = 0;

    public static void main(String[] args) throws IOException, IllegalAccessException {
        String doc = Files.readString(Path.of("../shared/DOC.md"));
        String source = Files.readString(Path.of("src/main/java/ChestnutLine.java"));
        face(doc);
        members();
        words(withoutComments(source));
        lengths(source);
        library(withoutComments(source));
        depths(withoutComments(source));
        room();
        Told.finish();
    }

    private static void face(String doc) {
        Set<String> due = new TreeSet<>();
        Matcher promised = Pattern.compile("(?m)^    public (\\w+ \\w+\\([^)]*\\));").matcher(doc);
        while (promised.find()) {
            // The names of the parameters alone go: each has a comma or the bracket behind it.
            due.add(promised.group(1).replaceAll(" \\w+(?=[,)])", "").replace(", ", ","));
        }
        Set<String> found = new TreeSet<>();
        for (Method method : ChestnutLine.class.getDeclaredMethods()) {
            if (!Modifier.isPrivate(method.getModifiers())) {
                List<String> types = new ArrayList<>();
                for (Class<?> type : method.getParameterTypes()) {
                    types.add(type.getName());
                }
                found.add(method.getReturnType() + " " + method.getName() + "(" + String.join(",", types) + ")");
            }
        }
        Told.due("methods of the face: " + found, found.size(), due.size());
        for (String method : found) {
            Told.due("the document has " + method, due.contains(method), true);
        }
        Told.due("public constructors", ChestnutLine.class.getConstructors().length, 1);
        Told.due("final", Modifier.isFinal(ChestnutLine.class.getModifiers()), true);
    }

    private static void members() {
        Set<String> publicNames = new TreeSet<>();
        for (Method method : ChestnutLine.class.getMethods()) {
            publicNames.add(method.getName());
        }
        fields(ChestnutLine.class);
        for (Method method : ChestnutLine.class.getDeclaredMethods()) {
            method(method, publicNames);
        }
        Class<?>[] inside = ChestnutLine.class.getDeclaredClasses();
        Told.due("some twelve classes", inside.length <= 11, true);
        for (Class<?> nested : inside) {
            Told.due(nested + " is static", Modifier.isStatic(nested.getModifiers()), true);
            Told.due(nested + " is not public", Modifier.isPublic(nested.getModifiers()), false);
            fields(nested);
            for (Method method : nested.getDeclaredMethods()) {
                Told.due(method + " bears a public name", publicNames.contains(method.getName()), false);
                method(method, publicNames);
            }
        }
    }

    private static void fields(Class<?> type) {
        int many = 0;
        for (Field field : type.getDeclaredFields()) {
            if (Modifier.isStatic(field.getModifiers())) {
                Told.due(field + " is final", Modifier.isFinal(field.getModifiers()), true);
                Told.due(field + " is a number", field.getType() == int.class, true);
            } else {
                many++;
            }
            if (type == ChestnutLine.class && !field.getName().equals("NONE")) {
                isPrivate(field);
            }
        }
        Told.due(type + " has some twenty fields", many <= 20, true);
    }

    private static void method(Method method, Set<String> publicNames) {
        Told.due(method + " has seven parameters at most", method.getParameterCount() <= 7, true);
        if (Modifier.isPrivate(method.getModifiers())) {
            Told.due(method + " bears a public name", publicNames.contains(method.getName()), false);
        } else if (method.getDeclaringClass() == ChestnutLine.class) {
            Told.due(method + " is public", Modifier.isPublic(method.getModifiers()), true);
        }
    }

    private static void isPrivate(Member member) {
        Told.due(member + " is private", Modifier.isPrivate(member.getModifiers()), true);
    }

    private static String withoutComments(String source) {
        return source.replaceAll("(?s)/\\*.*?\\*/", "").replaceAll("//[^\n]*", "");
    }

    private static void words(String code) {
        String[] none = {"\\bthrow", "\\btry\\b", "\\bcatch\\b", "\\bassert\\b", "\\bsynchronized\\b", "\\bimport\\b",
            "\\bpackage\\b", "->", "::", "\\bdouble\\b", "\\bfloat\\b", "\\bprotected\\b", "\\bObject\\b", "Exact\\b",
            "\\bequals\\b", "\\bhashCode\\b", "\\btoString\\b", "\\bstatic \\{", "\\bRandom\\b", "\\bSystem\\.(?!arraycopy)",
            "\"\\s*\\+", "\\+\\s*\"", "while \\(true\\)", "for \\(;;\\)"};
        for (String word : none) {
            Told.due("no " + word, Pattern.compile(word).matcher(code).find(), false);
        }
        // Rows are made with the object, in fields alone: no call makes anything.
        for (String line : code.split("\n")) {
            boolean field = line.matches("\\s*(private )?final [\\w\\[\\]]+ \\w+ = .*");
            Told.due("made in a call: " + line.trim(), line.contains("new ") && !field, false);
        }
        Told.due("signs of the source", code.chars().allMatch(c -> c == 10 || c >= 32 && c < 127), true);
    }

    private static void lengths(String source) {
        Pattern head = Pattern.compile("^( {4}| {8})(public|private|static|int|void|boolean|long|Line|Pairs)\\b.*\\) \\{$");
        String[] lines = source.split("\n");
        for (int i = 0; i < lines.length; i++) {
            Matcher matcher = head.matcher(lines[i]);
            if (matcher.matches()) {
                int end = i;
                while (!lines[end].equals(matcher.group(1) + "}")) {
                    end++;
                }
                Told.due("short: " + lines[i].trim(), end - i <= MOST_LINES, true);
            }
        }
    }

    /** Rule 4: nothing of the library but what stands there (and of that no more than the class has need of). */
    private static void library(String code) {
        Set<String> allowed = Set.of("Math.max", "Math.min", "Math.abs", "Integer.bitCount", "System.arraycopy");
        Matcher used = Pattern.compile("\\b([A-Z][a-z]\\w+)\\.(\\w+)").matcher(code);
        while (used.find()) {
            Told.due("of the library: " + used.group(), allowed.contains(used.group()), true);
        }
        Set<String> own = declared(code).keySet();
        Matcher called = Pattern.compile("(?<!Math|Integer|System)\\.(\\w+)\\(").matcher(code);
        while (called.find()) {
            boolean ofString = Set.of("length", "charAt").contains(called.group(1));
            Told.due("a method of its own: " + called.group(1), ofString || own.contains(called.group(1)), true);
        }
    }

    /** Which names a method's lines call, by its own name; methods of one name are taken together. */
    private static Map<String, Set<String>> declared(String code) {
        Map<String, Set<String>> calls = new TreeMap<>();
        Pattern head = Pattern.compile("^ {4}(?: {4})?(?:(?:public|private|static) )*[\\w\\[\\]]+ (\\w+)\\([^;]*\\) \\{$");
        Set<String> inside = new TreeSet<>();
        for (String line : code.split("\n")) {
            Matcher matcher = head.matcher(line);
            if (matcher.matches()) {
                inside = calls.computeIfAbsent(matcher.group(1), name -> new TreeSet<>());
            } else {
                Matcher called = Pattern.compile("\\b(\\w+)\\(").matcher(line);
                while (called.find()) {
                    inside.add(called.group(1));
                }
            }
        }
        return calls;
    }

    /** Rule 11: calls that are no recursion go at most eight deep; the one that calls itself is counted once. */
    private static void depths(String code) {
        Map<String, Set<String>> calls = declared(code);
        Told.due("methods found", calls.size() > 100, true);
        for (String name : calls.keySet()) {
            int deep = depth(calls, name, new ArrayList<>());
            Told.due(name + " goes " + deep + " deep", deep <= MOST_DEEP, true);
            // A State's copyFrom calls those of its parts, which are other ones; search has its guard on the depth.
            boolean may = name.equals("search") || name.equals("copyFrom");
            Told.due(name + " calls itself", !may && calls.get(name).contains(name), false);
        }
    }

    private static int depth(Map<String, Set<String>> calls, String name, List<String> open) {
        open.add(name);
        int deepest = 0;
        for (String called : calls.get(name)) {
            if (calls.containsKey(called) && !called.equals(name)) {
                Told.due("no ring of calls: " + open + " " + called, open.contains(called), false);
                deepest = open.contains(called) ? deepest : Math.max(deepest, depth(calls, called, open));
            }
        }
        open.remove(open.size() - 1);
        return deepest + 1;
    }

    /** As calls make nothing (see words), what an object has when it is made is all that it ever takes. */
    private static void room() throws IllegalAccessException {
        weigh(new ChestnutLine());
        Told.due(MOST_MADE + " times " + objects + " objects", objects * MOST_MADE <= ROOM_FOR_OBJECTS, true);
        Told.due(MOST_MADE + " times " + elements + " elements", elements * MOST_MADE <= ROOM_FOR_FIELDS, true);
    }

    private static void weigh(Object object) throws IllegalAccessException {
        objects++;
        if (object.getClass().isArray()) {
            elements += Array.getLength(object);
            for (int i = 0; !object.getClass().getComponentType().isPrimitive() && i < Array.getLength(object); i++) {
                weigh(Array.get(object, i));
            }
            return;
        }
        for (Field field : object.getClass().getDeclaredFields()) {
            if (!Modifier.isStatic(field.getModifiers())) {
                elements++;
                field.setAccessible(true);
                if (!field.getType().isPrimitive()) {
                    weigh(field.get(object));
                }
            }
        }
    }
}
