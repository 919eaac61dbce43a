import java.io.IOException;
import java.lang.reflect.Field;
import java.lang.reflect.Modifier;
import java.nio.charset.StandardCharsets;
import java.nio.file.Files;
import java.nio.file.Path;
import java.util.ArrayDeque;
import java.util.ArrayList;
import java.util.Deque;
import java.util.LinkedHashMap;
import java.util.List;
import java.util.Map;
import java.util.Set;
import java.util.regex.Matcher;
import java.util.regex.Pattern;

/**
 * Rules 8 and 11 of ../shared/LANGUAGE.md, as far as they can be seen in the text of the program: how long
 * methods are, how many parameters and fields there are, how deep calls go, and that none calls itself.
 * A call is told by its name and by what stands before its point, so names must say of which class they are.
 */
public final class ShapeTest {
    private static final int LINES = 60;
    private static final int PARAMETERS = 7;
    private static final int FIELDS = 20;
    private static final int DEPTH = 8;
    private static final String LIBRARY_OF_JAVA = "Java";
    private static final Pattern CLASS = Pattern.compile("^ *(?:public |private |static |final )*class (\\w+) \\{$");
    private static final Pattern METHOD = Pattern.compile(
        "^ *(?:public |private |static |final )*(?:[\\w\\[\\]]+ )?(\\w+)\\(([^()]*)\\)(?: throws [\\w, ]+)? \\{$");
    private static final Pattern CALL = Pattern.compile("(?:(\\w+)(?:\\[[^\\]]*\\])?\\.)?(\\w+)\\(");
    private static final Set<String> WORDS = Set.of("if", "for", "while", "switch", "return", "catch");

    /** A method of the program: what stands in it, and the names of what it calls. */
    private static final class Method {
        final String name;
        final int parameters;
        final List<String> body = new ArrayList<>();
        final List<String> calls = new ArrayList<>();

        Method(String name, int parameters) {
            this.name = name;
            this.parameters = parameters;
        }
    }

    private static final Map<String, Method> methods = new LinkedHashMap<>();
    private static int wrong = 0;

    public static void main(String[] args) throws IOException {
        read(Files.readString(Path.of("src/main/java/ShoutGates.java"), StandardCharsets.ISO_8859_1));
        hold(methods.size() > 80, "the methods are found: " + methods.size());
        int deepest = 0;
        for (Method method : methods.values()) {
            hold(method.body.size() + 2 <= LINES, method.name + " is short");
            hold(method.parameters <= PARAMETERS, method.name + " has few parameters");
            findCalls(method);
        }
        for (Method method : methods.values()) {
            deepest = Math.max(deepest, depth(method.name, new ArrayDeque<>()));
        }
        hold(deepest <= DEPTH, "calls go " + deepest + " deep");
        fields(ShoutGates.class);
        for (Class<?> inside : ShoutGates.class.getDeclaredClasses()) {
            fields(inside);
        }
        System.out.println("ShapeTest: " + methods.size() + " methods, calls " + deepest + " deep, " + wrong + " wrong");
        System.exit(wrong == 0 ? 0 : 1);
    }

    private static void hold(boolean fine, String what) {
        if (!fine) {
            wrong++;
            System.out.println("does not hold: " + what);
        }
    }

    private static void fields(Class<?> of) {
        int count = 0;
        for (Field field : of.getDeclaredFields()) {
            count += Modifier.isStatic(field.getModifiers()) ? 0 : 1;
        }
        hold(count <= FIELDS, of + " has " + count + " fields beside its constants");
    }

    // ---- the text of the program

    private static void read(String source) {
        String code = source.replaceAll("(?s)/\\*.*?\\*/", "").replaceAll("//[^\n]*", "").replaceAll("\"[^\"\n]*\"", "\"\"");
        String owner = "";
        Method open = null;
        String end = "";
        for (String line : code.split("\n")) {
            Matcher asClass = CLASS.matcher(line);
            Matcher asMethod = METHOD.matcher(line);
            if (open != null) {
                if (line.equals(end)) {
                    open = null;
                } else {
                    open.body.add(line);
                }
            } else if (asClass.matches()) {
                owner = asClass.group(1);
            } else if (asMethod.matches()) {
                String parameters = asMethod.group(2);
                String name = owner + "." + asMethod.group(1);
                open = new Method(name, parameters.isEmpty() ? 0 : parameters.split(",").length);
                hold(methods.put(name, open) == null, name + " stands once");
                end = line.substring(0, line.length() - line.stripLeading().length()) + "}";
            }
        }
    }

    private static void findCalls(Method method) {
        String owner = method.name.substring(0, method.name.indexOf('.'));
        for (String line : method.body) {
            Matcher call = CALL.matcher(line);
            while (call.find()) {
                String before = call.group(1);
                boolean made = line.substring(0, call.start()).endsWith("new ");
                if (before != null || !WORDS.contains(call.group(2))) {
                    method.calls.add(called(owner, before, call.group(2), made));
                }
            }
        }
    }

    private static String called(String owner, String before, String name, boolean made) {
        if (made) {
            return methods.containsKey(name + "." + name) ? name + "." + name : LIBRARY_OF_JAVA;
        }
        String own = before == null && methods.containsKey(owner + "." + name) ? owner : classOf(before);
        if (own.equals(LIBRARY_OF_JAVA)) {
            return own;
        }
        hold(methods.containsKey(own + "." + name), own + "." + name + " is found");
        return own + "." + name;
    }

    private static String classOf(String before) {
        if (before == null) {
            return "ShoutGates";
        }
        switch (before) {
            case "gates": return "Gates";
            case "text": return "Text";
            case "library": case "trial": case "remembered": case "saved": return "Library";
            default:
                hold(Set.of("Integer", "Math", "System").contains(before), "it is told of which class " + before + " is");
                return LIBRARY_OF_JAVA;
        }
    }

    /** How many calls stand open at once from this method on, itself and those of Java's library counted. */
    private static int depth(String name, Deque<String> open) {
        Method method = methods.get(name);
        if (method == null) {
            return 1;
        }
        if (open.contains(name)) {
            hold(false, name + " calls itself");
            return 1;
        }
        open.push(name);
        int deepest = 0;
        for (String call : method.calls) {
            deepest = Math.max(deepest, depth(call, open));
        }
        open.pop();
        return deepest + 1;
    }
}
