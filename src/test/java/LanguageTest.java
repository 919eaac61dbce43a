import java.io.IOException;
import java.lang.management.ManagementFactory;
import java.lang.reflect.Constructor;
import java.lang.reflect.Field;
import java.lang.reflect.Method;
import java.lang.reflect.Modifier;
import java.nio.charset.StandardCharsets;
import java.nio.file.Files;
import java.nio.file.Path;
import java.util.Arrays;
import java.util.Set;
import java.util.TreeSet;
import java.util.regex.Matcher;
import java.util.regex.Pattern;

/** The face of the class, and what of ../shared/LANGUAGE.md can be seen from outside or in the text of the program. */
public final class LanguageTest {
    private static final String BOUNDS = "IndexOutOfBoundsException";
    private static final String ARGUMENT = "IllegalArgumentException";
    private static final String STATE = "IllegalStateException";
    private static final String[] FACE = {
        "int append(int) " + ARGUMENT + " " + STATE,
        "int clearText()",
        "int errorPosition()",
        "int load() " + STATE,
        "int about(int) " + ARGUMENT,
        "int book(int,int) " + BOUNDS + " " + ARGUMENT,
        "int visitor(int,int) " + BOUNDS + " " + ARGUMENT,
        "int gate(int,int) " + BOUNDS + " " + ARGUMENT,
        "int shout(int,int) " + ARGUMENT,
        "int take(int,int) " + BOUNDS + " " + STATE,
        "int putBack(int) " + BOUNDS + " " + STATE,
        "int borrow(int) " + BOUNDS + " " + STATE,
        "int bringBack(int) " + BOUNDS + " " + STATE,
        "int walk(int,int,boolean) " + BOUNDS + " " + STATE,
        "int turn(int) " + BOUNDS + " " + STATE,
        "int ticks(int) " + ARGUMENT,
        "int set(int,int) " + ARGUMENT,
        "int undo() " + STATE,
        "int shouted(int) " + BOUNDS,
        "int slips()",
        "int leastStrength(int) " + BOUNDS,
        "int bestGate(int) " + BOUNDS + " " + STATE,
        "int runScript(int,long) " + ARGUMENT,
        "int simulate(long,int) " + ARGUMENT,
        "int save(int) " + BOUNDS,
        "int restore(int) " + BOUNDS + " " + STATE,
    };
    private static int wrong = 0;

    public static void main(String[] args) throws IOException {
        face();
        insideClasses();
        source();
        room();
        System.out.println("LanguageTest: " + wrong + " wrong");
        System.exit(wrong == 0 ? 0 : 1);
    }

    private static void hold(boolean fine, String what) {
        if (!fine) {
            wrong++;
            System.out.println("does not hold: " + what);
        }
    }

    private static void face() {
        Class<?> all = ShoutGates.class;
        hold(Modifier.isPublic(all.getModifiers()) && Modifier.isFinal(all.getModifiers()), "public final class");
        Set<String> due = new TreeSet<>(Arrays.asList(FACE));
        Set<String> publicNames = new TreeSet<>();
        Set<String> got = new TreeSet<>();
        for (Method method : all.getDeclaredMethods()) {
            if (Modifier.isPublic(method.getModifiers())) {
                got.add(signature(method));
                publicNames.add(method.getName());
            }
        }
        hold(got.equals(due), "the face is " + due + ", not " + got);
        for (Method method : all.getDeclaredMethods()) {
            boolean open = Modifier.isPublic(method.getModifiers());
            hold(open || Modifier.isPrivate(method.getModifiers()), method + " is private");
            hold(open || !publicNames.contains(method.getName()), method + " has a name of its own");
        }
        for (Constructor<?> constructor : all.getDeclaredConstructors()) {
            hold(Modifier.isPublic(constructor.getModifiers()) && constructor.getParameterCount() == 0, "one constructor");
        }
        for (Field field : all.getDeclaredFields()) {
            boolean open = field.getName().equals("NONE");
            hold(open ? Modifier.isPublic(field.getModifiers()) : Modifier.isPrivate(field.getModifiers()), "" + field);
            hold(!Modifier.isStatic(field.getModifiers()) || Modifier.isFinal(field.getModifiers()), field + " is final");
        }
    }

    private static String signature(Method method) {
        StringBuilder text = new StringBuilder(method.getReturnType() + " " + method.getName() + "(");
        for (Class<?> parameter : method.getParameterTypes()) {
            text.append(text.charAt(text.length() - 1) == '(' ? "" : ",").append(parameter.getSimpleName());
        }
        text.append(")");
        for (Class<?> exception : method.getExceptionTypes()) {
            text.append(" ").append(exception.getSimpleName());
        }
        return text.toString();
    }

    private static void insideClasses() {
        Class<?>[] inside = ShoutGates.class.getDeclaredClasses();
        hold(inside.length <= 11, "some twelve classes");
        for (Class<?> one : inside) {
            hold(Modifier.isPrivate(one.getModifiers()) && Modifier.isStatic(one.getModifiers()), one + " is private, static");
            hold(one.getDeclaredFields().length <= 20, one + " has some twenty fields");
        }
    }

    private static void source() throws IOException {
        String text = Files.readString(Path.of("src/main/java/ShoutGates.java"), StandardCharsets.ISO_8859_1);
        hold(text.chars().allMatch(c -> c == '\n' || c >= 32 && c < 127), "plain signs");
        String code = text.replaceAll("(?s)/\\*.*?\\*/", "").replaceAll("//[^\n]*", "");
        String[] words = {"import", "package", "catch", "try", "finally", "synchronized", "assert", "static \\{", "->", "::",
            "native", "volatile", "transient", "System\\.(?!arraycopy\\()", "Thread", "Random", "var", "yield", "while"};
        for (String word : words) {
            Matcher matcher = Pattern.compile("(?<![A-Za-z])" + word + "(?![A-Za-z])").matcher(code);
            hold(!matcher.find(), "the program does without " + word);
        }
        Matcher made = Pattern.compile("new ([A-Za-z]+)").matcher(code);
        while (made.find()) {
            hold(Set.of(BOUNDS, ARGUMENT, STATE, "int", "char", "boolean", "Library", "Gates", "Text").contains(made.group(1)),
                "new " + made.group(1));
        }
    }

    /** All calls of a run live in one room, so no call but the constructor may make anything. */
    private static void room() {
        com.sun.management.ThreadMXBean bean = (com.sun.management.ThreadMXBean) ManagementFactory.getThreadMXBean();
        for (int round = 0; round < 2; round++) {
            ShoutGates x = new ShoutGates();
            for (char c : "L15151510t000t001t102o00o11n1".toCharArray()) {
                x.append(c);
            }
            long before = bean.getThreadAllocatedBytes(Thread.currentThread().getId());
            for (int i = 0; i < 24; i++) {
                everyCall(x, i);
            }
            long made = bean.getThreadAllocatedBytes(Thread.currentThread().getId()) - before;
            // The first round also pays for what the machine itself makes when a method runs first.
            hold(round == 0 || made < 10000, "calls make next to nothing: " + made + " bytes");
        }
    }

    private static void everyCall(ShoutGates x, int i) {
        x.load();
        x.errorPosition();
        x.take(2, 3);
        x.putBack(3);
        x.borrow(3);
        x.bringBack(3);
        x.walk(3, 2, true);
        x.turn(3);
        x.set(4, i % 10);
        x.save(i % 2);
        x.slips();
        x.shouted(5);
        x.leastStrength(i % 3);
        x.bestGate(4);
        x.runScript(3, 500505005050050L);
        x.simulate(i, 99);
        x.ticks(50);
        x.undo();
        x.restore(i % 2);
    }
}
