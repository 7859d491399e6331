import java.io.IOException;
import java.lang.reflect.Array;
import java.lang.reflect.Constructor;
import java.lang.reflect.Field;
import java.lang.reflect.Method;
import java.lang.reflect.Modifier;
import java.nio.file.Files;
import java.nio.file.Path;
import java.util.ArrayList;
import java.util.Arrays;
import java.util.IdentityHashMap;
import java.util.List;
import java.util.Map;
import java.util.Set;
import java.util.TreeSet;
import java.util.regex.Matcher;
import java.util.regex.Pattern;
import java.util.stream.Collectors;

/** The face as the document writes it, and what of LANGUAGE.md can be seen without reading it as a person. */
public final class FaceTest {
    private static final Checks checks = new Checks("face");

    private static final String FACE = """
        boolean isOut(int) IndexOutOfBoundsException
        boolean isSafe(int) IndexOutOfBoundsException
        char character(int) IndexOutOfBoundsException
        double homeShare() ArithmeticException
        float meanGoals() ArithmeticException
        int account(int) IllegalArgumentException
        int append(char) IllegalStateException
        int back(int) UnsupportedOperationException
        int byeIn(int) IndexOutOfBoundsException NoSuchElementException
        int clashes(int) IndexOutOfBoundsException
        int commands() IllegalArgumentException UnsupportedOperationException
        int draw() UnsupportedOperationException
        int faultPosition()
        int find(int int) IndexOutOfBoundsException NoSuchElementException
        int freeWeek(int) IndexOutOfBoundsException NoSuchElementException
        int give(int int) UnsupportedOperationException
        int ground(int int) UnsupportedOperationException
        int line(int) IndexOutOfBoundsException
        int meetingOf(int int) IndexOutOfBoundsException IllegalArgumentException
        int meetingsIn(int) IndexOutOfBoundsException
        int most(int) IndexOutOfBoundsException
        int next() UnsupportedOperationException
        int placeOf(int) IndexOutOfBoundsException
        int pointsAgain(int) IndexOutOfBoundsException
        int putOff(int int) UnsupportedOperationException
        int ranked(int) NoSuchElementException
        int reason(int) IllegalArgumentException NoSuchElementException
        int restore() IllegalStateException
        int result(int int int) UnsupportedOperationException
        int rules(int int int) UnsupportedOperationException
        int run(int) IndexOutOfBoundsException
        int save()
        int team(int) UnsupportedOperationException
        int teamOf(int int) IndexOutOfBoundsException IllegalArgumentException
        int tied(int) IndexOutOfBoundsException
        int undo() IllegalStateException
        int valueOf(int int) IndexOutOfBoundsException IllegalArgumentException
        """;

    private static final Set<String> THROWN = Set.of("IllegalStateException", "IllegalArgumentException",
        "IndexOutOfBoundsException", "ArithmeticException", "UnsupportedOperationException",
        "NoSuchElementException", "RuntimeException");

    public static void main(String[] args) throws IOException {
        face();
        nested();
        Path root = Path.of(args.length == 0 ? "." : args[0]);
        source(Files.readString(root.resolve("src/main/java/LeagueTables.java")));
        room();
        checks.end();
    }

    private static String names(Class<?>[] types) {
        return Arrays.stream(types).map(Class::getSimpleName).collect(Collectors.joining(" "));
    }

    private static void face() {
        Class<?> type = LeagueTables.class;
        checks.yes("public final class", Modifier.isPublic(type.getModifiers()) && Modifier.isFinal(type.getModifiers()));
        Constructor<?>[] constructors = type.getDeclaredConstructors();
        checks.yes("one public constructor without parameters", constructors.length == 1
            && Modifier.isPublic(constructors[0].getModifiers()) && constructors[0].getParameterCount() == 0);
        Set<String> shown = new TreeSet<>();
        Set<String> publicNames = new TreeSet<>();
        for (Method m : type.getDeclaredMethods()) {
            if (!Modifier.isPrivate(m.getModifiers()) && !m.isSynthetic()) {
                checks.yes(m.getName() + " is public", Modifier.isPublic(m.getModifiers()));
                publicNames.add(m.getName());
                shown.add((m.getReturnType().getSimpleName() + " " + m.getName() + "("
                    + names(m.getParameterTypes()) + ") " + names(m.getExceptionTypes())).strip());
            }
        }
        checks.note("the face", String.join("\n", shown) + "\n", FACE);
        for (Field f : type.getDeclaredFields()) {
            checks.yes("field " + f.getName() + " is private", Modifier.isPrivate(f.getModifiers()));
        }
        List<Class<?>> all = new ArrayList<>(List.of(type.getDeclaredClasses()));
        all.add(type);
        for (Class<?> c : all) {
            for (Method m : c.getDeclaredMethods()) {
                checks.yes(m + " bears no name of the face", Modifier.isPublic(m.getModifiers())
                    || !publicNames.contains(m.getName()));
                checks.yes(m + " has at most seven parameters", m.getParameterCount() <= 7);
            }
        }
    }

    private static void nested() {
        Class<?>[] inside = LeagueTables.class.getDeclaredClasses();
        checks.yes("at most twelve classes", inside.length + 1 <= 12);
        for (Class<?> c : inside) {
            checks.yes(c + " is static and not shown", Modifier.isStatic(c.getModifiers())
                && !Modifier.isPublic(c.getModifiers()) && !Modifier.isProtected(c.getModifiers()));
            fields(c);
        }
        fields(LeagueTables.class);
    }

    private static void fields(Class<?> c) {
        int own = 0;
        for (Field f : c.getDeclaredFields()) {
            if (Modifier.isStatic(f.getModifiers())) {
                checks.yes(f + " is final", Modifier.isFinal(f.getModifiers()));
            } else {
                own++;
            }
        }
        checks.yes(c + " has at most twenty fields", own <= 20);
    }

    // ---- The text of the file

    private static void source(String whole) {
        checks.yes("signs 1 to 127 alone", whole.chars().allMatch(sign -> sign > 0 && sign < 128));
        String code = whole.replaceAll("(?s)/\\*.*?\\*/", "").replaceAll("//[^\n]*", "");
        String bare = code.replaceAll("\"(?:[^\"\\\\]|\\\\.)*\"", "TEXT").replaceAll("'(?:[^'\\\\]|\\\\.)'", "SIGN");
        checks.yes("no package", !bare.contains("package "));
        for (String word : List.of("->", "::", "assert ", "synchronized", "finally", "Exact(", "hashCode", "toString",
            "equals", "System.out", "System.exit", "Random", "Thread", "nanoTime", "currentTime", "native ",
            "static {", "try", "catch", "protected", "public static", "TEXT +", "+ TEXT", "getMessage", "var ")) {
            checks.yes("no " + word, !Pattern.compile("(?<![A-Za-z])" + Pattern.quote(word)).matcher(bare).find());
        }
        imports(bare);
        thrown(bare);
        loops(bare);
        methods(bare);
        constructor(bare);
    }

    private static void imports(String bare) {
        Matcher m = Pattern.compile("import ([a-zA-Z.*]+);").matcher(bare);
        while (m.find()) {
            checks.yes("import " + m.group(1), Set.of("java.util.NoSuchElementException", "java.util.Arrays",
                "java.util.ArrayList", "java.util.List").contains(m.group(1)));
        }
    }

    private static void thrown(String bare) {
        Matcher m = Pattern.compile("\\bthrow\\b([^;]*);").matcher(bare);
        while (m.find()) {
            Matcher made = Pattern.compile("\\s*new (\\w+)\\((TEXT)?\\)").matcher(m.group(1));
            checks.yes("throw" + m.group(1), made.matches() && THROWN.contains(made.group(1)));
        }
    }

    // No index is used but in the rows' own functions, which look at it first.
    private static void loops(String bare) {
        checks.yes("no while without a counter", !bare.contains("while (true)") && !bare.contains("for (;;)"));
        Matcher m = Pattern.compile("\\w+\\[\\w[^\\]]*\\]").matcher(bare);
        Set<String> indexed = new TreeSet<>();
        while (m.find()) {
            if (!m.group().matches("(int|char|League)\\[.*")) {
                indexed.add(m.group());
            }
        }
        checks.note("what is indexed", indexed.toString(),
            "[ring[i], ring[index], row[i], row[index], signs[length], signs[position]]");
    }

    private static void methods(String bare) {
        int start = -1;
        String[] lines = bare.split("\n");
        for (int i = 0; i < lines.length; i++) {
            if (lines[i].matches(" {4,8}(?!if |for |while |switch )[a-zA-Z].*\\) *(throws .*)?\\{")) {
                start = i;
            } else if (lines[i].matches(" {4,8}\\}") && start != -1) {
                checks.yes("at most sixty lines: " + lines[start].strip(), i - start < 60);
                start = -1;
            }
        }
    }

    private static void constructor(String bare) {
        checks.yes("no throw in a constructor", !Pattern.compile("public LeagueTables\\(\\) \\{[^}]*throw").matcher(bare).find());
    }

    // ---- The room that an object takes

    private static void room() {
        LeagueTables x = new LeagueTables();
        long[] fresh = sizeOf(x);
        checks.yes("few objects: " + fresh[0], fresh[0] <= 120);
        checks.yes("few fields and elements: " + fresh[1], fresh[1] <= 4000);
        for (int i = 0; i < 8; i++) {
            x.team(i);
        }
        x.draw();
        for (int i = 0; i < 500; i++) {
            x.result(0, 1, 1);
            x.back(0);
            x.save();
            x.append('t');
            x.commands();
            x.line(0);
            x.ranked(0);
        }
        long[] used = sizeOf(x);
        checks.yes("no more objects behind many calls", used[0] == fresh[0]);
        checks.yes("no more elements behind many calls", used[1] <= fresh[1] + 100);
    }

    private static long[] sizeOf(Object root) {
        Map<Object, Boolean> seen = new IdentityHashMap<>();
        List<Object> open = new ArrayList<>(List.of(root));
        long elements = 0;
        while (!open.isEmpty()) {
            Object o = open.remove(open.size() - 1);
            if (seen.put(o, true) != null) {
                continue;
            }
            elements += o instanceof StringBuilder b ? b.capacity() + 3 : partsOf(o, open);
        }
        return new long[] {seen.size(), elements};
    }

    private static int partsOf(Object o, List<Object> open) {
        if (o.getClass().isArray()) {
            if (!o.getClass().getComponentType().isPrimitive()) {
                open.addAll(Arrays.stream((Object[]) o).filter(part -> part != null).toList());
            }
            return Array.getLength(o);
        }
        int fields = 0;
        for (Field f : o.getClass().getDeclaredFields()) {
            if (Modifier.isStatic(f.getModifiers())) {
                continue;
            }
            fields++;
            f.setAccessible(true);
            try {
                Object part = f.getType().isPrimitive() ? null : f.get(o);
                if (part != null) {
                    open.add(part);
                }
            } catch (IllegalAccessException e) {
                throw new IllegalStateException(e);
            }
        }
        return fields;
    }
}
