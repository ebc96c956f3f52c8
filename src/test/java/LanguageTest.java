import java.io.IOException;
import java.lang.reflect.Constructor;
import java.lang.reflect.Field;
import java.lang.reflect.Method;
import java.lang.reflect.Modifier;
import java.nio.file.Files;
import java.nio.file.Path;
import java.util.ArrayList;
import java.util.HashMap;
import java.util.HashSet;
import java.util.List;
import java.util.Map;
import java.util.Set;
import java.util.TreeSet;
import java.util.regex.Matcher;
import java.util.regex.Pattern;

/** What of LANGUAGE.md a test can see: the face, words that are ruled out, sizes and depths. */
public final class LanguageTest {
    private static final Path SOURCE = Path.of("src/main/java/GuestNoes.java");
    private static final Path DOCUMENT = Path.of("../shared/DOC.md");
    private static final Pattern METHOD = Pattern.compile(
        "(?m)^ +(?:private|public) (?:static )?[\\w\\[\\]]+ (\\w+)\\(([^)]*)\\) \\{$");

    private record Part(String name, String parameters, String body) {
    }

    public static void main(String[] args) throws IOException {
        String source = withoutComments(Files.readString(SOURCE));
        face(Files.readString(DOCUMENT));
        names();
        words(source);
        fields();
        List<Part> parts = parts(source);
        sizes(parts);
        depth(parts);
        nothingIsMadeInCalls(source);
        Check.end("LanguageTest");
    }

    private static String withoutComments(String source) {
        return source.replaceAll("(?s)/\\*.*?\\*/", "").replaceAll("//[^\n]*", "");
    }

    private static void face(String document) {
        Set<String> due = new TreeSet<>();
        Matcher m = Pattern.compile("(?m)^    public (int \\w+\\([^)]*\\));").matcher(document);
        while (m.find()) {
            due.add(m.group(1).replaceAll("(int|boolean) \\w+([,)])", "$1$2"));
        }
        Set<String> got = new TreeSet<>();
        for (Method method : GuestNoes.class.getDeclaredMethods()) {
            if (!Modifier.isPrivate(method.getModifiers())) {
                Check.holds(method + " is public and not static", method.getModifiers() == Modifier.PUBLIC);
                StringBuilder types = new StringBuilder();
                for (Class<?> type : method.getParameterTypes()) {
                    types.append(types.length() > 0 ? ", " : "").append(type);
                }
                got.add(method.getReturnType() + " " + method.getName() + "(" + types + ")");
            }
        }
        Check.is("methods of the face", due.size(), 32);
        Check.same("the face", got.toString(), due.toString());
        Constructor<?>[] constructors = GuestNoes.class.getDeclaredConstructors();
        Check.is("constructors", constructors.length, 1);
        Check.holds("it is public", Modifier.isPublic(constructors[0].getModifiers()));
        Check.holds("public final class", GuestNoes.class.getModifiers() == (Modifier.PUBLIC | Modifier.FINAL));
        Set<String> open = new TreeSet<>();
        for (Field field : GuestNoes.class.getDeclaredFields()) {
            if (!Modifier.isPrivate(field.getModifiers())) {
                open.add(field.getName());
            }
        }
        Check.same("constants", open.toString(), "[FULL, NONE, NOT, OUTSIDE, UNKNOWN]");
    }

    private static void names() {
        Set<String> open = new HashSet<>();
        for (Method method : GuestNoes.class.getMethods()) {
            open.add(method.getName());
        }
        for (Class<?> type : types()) {
            for (Method method : type.getDeclaredMethods()) {
                if (Modifier.isPrivate(method.getModifiers())) {
                    Check.holds("private " + method.getName() + " bears no public name", !open.contains(method.getName()));
                }
            }
        }
    }

    private static List<Class<?>> types() {
        List<Class<?>> types = new ArrayList<>(List.of(GuestNoes.class.getDeclaredClasses()));
        types.add(GuestNoes.class);
        return types;
    }

    private static void words(String source) {
        String[] out = {"throw", "throws", "try", "catch", "synchronized", "assert", "import", "package", "lambda",
            "instanceof", "protected", "java\\.", "\\w+Exact", "double", "float", "volatile", "native", "Object"};
        for (String word : out) {
            Check.holds("no " + word, !Pattern.compile("\\b" + word + "(\\b|$)").matcher(source).find());
        }
        Check.holds("no lambda", !source.contains("->"));
        Check.holds("no method reference", !source.contains("::"));
        Check.holds("plain letters alone", source.chars().allMatch(c -> c == '\n' || c >= 32 && c < 127));
        Check.holds("no text", !source.contains("\""));
        Check.holds("no static block", !Pattern.compile("static\\s*\\{").matcher(source).find());
    }

    private static void fields() {
        List<Class<?>> types = types();
        Check.holds("some twelve classes", types.size() <= 12);
        for (Class<?> type : types) {
            int own = 0;
            for (Field field : type.getDeclaredFields()) {
                if (Modifier.isStatic(field.getModifiers())) {
                    Check.holds(field + " is a constant", Modifier.isFinal(field.getModifiers()) && field.getType().isPrimitive());
                } else {
                    own++;
                }
            }
            Check.holds(type + ": some twenty fields", own <= 20);
            Check.holds(type + ": static", type == GuestNoes.class || Modifier.isStatic(type.getModifiers()));
        }
    }

    private static List<Part> parts(String source) {
        List<Part> parts = new ArrayList<>();
        Matcher m = METHOD.matcher(source);
        while (m.find()) {
            int depth = 1;
            int at = m.end();
            while (depth > 0) {
                char c = source.charAt(at++);
                depth += c == '{' ? 1 : c == '}' ? -1 : 0;
            }
            parts.add(new Part(m.group(1), m.group(2), source.substring(m.end(), at)));
        }
        int declared = 0;
        for (Class<?> type : types()) {
            declared += type.getDeclaredMethods().length;
        }
        Check.is("methods that this test sees", parts.size(), declared);
        return parts;
    }

    private static void sizes(List<Part> parts) {
        for (Part part : parts) {
            Check.holds(part.name() + ": at most seven parameters", part.parameters().split(",").length <= 7);
            Check.holds(part.name() + ": short", part.body().split("\n").length <= 60);
        }
    }

    /** Methods of one name count as one, so the depth that is found is rather too great. */
    private static void depth(List<Part> parts) {
        Map<String, Set<String>> calls = new HashMap<>();
        for (Part part : parts) {
            calls.computeIfAbsent(part.name(), name -> new HashSet<>());
        }
        Pattern call = Pattern.compile("\\b(\\w+)\\(");
        for (Part part : parts) {
            Matcher m = call.matcher(part.body());
            while (m.find()) {
                if (calls.containsKey(m.group(1)) && !m.group(1).equals(part.name())) {
                    calls.get(part.name()).add(m.group(1));
                }
            }
        }
        for (String name : calls.keySet()) {
            Check.holds(name + ": at most eight deep", deepest(calls, name, 0) <= 8);
        }
    }

    private static int deepest(Map<String, Set<String>> calls, String name, int above) {
        if (above > 20) {
            return above;
        }
        int deepest = above + 1;
        for (String called : calls.get(name)) {
            deepest = Math.max(deepest, deepest(calls, called, above + 1));
        }
        return deepest;
    }

    /** All calls of a run live in one room, so objects are made with the fields and nowhere else. */
    private static void nothingIsMadeInCalls(String source) {
        for (String line : source.split("\n")) {
            if (line.contains("new ")) {
                Check.holds("made with a field: " + line.trim(), line.matches(" +private (final )?[\\w\\[\\]]+ \\w+ = new .*;"));
            }
        }
    }
}
