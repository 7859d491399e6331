import java.io.IOException;
import java.lang.reflect.InvocationTargetException;
import java.lang.reflect.Method;
import java.nio.file.Files;
import java.nio.file.Path;
import java.util.Set;
import java.util.TreeSet;
import java.util.regex.Matcher;
import java.util.regex.Pattern;

/** The calls of README.md, in their order, with the answers that stand behind them. */
public final class ReadmeTest {
    private static final Checks checks = new Checks("readme");
    private static final Pattern CALL = Pattern.compile("league\\.(\\w+)\\(([-0-9, ]*)\\); +// (throws \\w+|[^:]+).*");
    private static final Pattern TEXT = Pattern.compile("for \\(char sign : \"(.*)\"\\.toCharArray\\(\\)\\) \\{");
    // What of a text's loop and the first line needs no look of its own.
    private static final Set<String> PLAIN =
        Set.of("LeagueTables league = new LeagueTables();", "league.append(sign);", "}");

    public static void main(String[] args) throws IOException {
        String page = Files.readString(Path.of(args.length == 0 ? "." : args[0]).resolve("README.md"));
        calls(page);
        methods(page);
        checks.end();
    }

    private static void calls(String page) {
        LeagueTables league = new LeagueTables();
        int blocks = 0;
        Matcher block = Pattern.compile("(?s)```java\n(.*?)```").matcher(page);
        while (block.find()) {
            blocks++;
            for (String row : block.group(1).split("\n")) {
                carryOut(league, row.strip());
            }
        }
        checks.yes("there are calls on the page", blocks > 0);
    }

    private static void carryOut(LeagueTables league, String row) {
        Matcher text = TEXT.matcher(row);
        Matcher call = CALL.matcher(row);
        if (text.matches()) {
            Ways.write(league, text.group(1));
        } else if (call.matches()) {
            checks.note(row, answer(league, call.group(1), numbers(call.group(2))), call.group(3));
        } else {
            checks.yes(row + " is a call with its answer", PLAIN.contains(row));
        }
    }

    private static Object[] numbers(String told) {
        return told.isBlank() ? new Object[0]
            : Pattern.compile(",").splitAsStream(told).map(one -> Integer.parseInt(one.strip())).toArray();
    }

    private static String answer(LeagueTables league, String name, Object[] numbers) {
        for (Method method : LeagueTables.class.getMethods()) {
            if (method.getName().equals(name) && method.getParameterCount() == numbers.length) {
                try {
                    return "" + method.invoke(league, numbers);
                } catch (InvocationTargetException e) {
                    return "throws " + e.getCause().getClass().getSimpleName();
                } catch (IllegalAccessException e) {
                    return "no access";
                }
            }
        }
        return "no such method";
    }

    // The page's list of methods is that of the class.
    private static void methods(String page) {
        Set<String> listed = new TreeSet<>();
        Matcher row = Pattern.compile("(?m)^[A-Z][^|`\n]*\\| (`.*)$").matcher(page);
        while (row.find()) {
            Matcher name = Pattern.compile("`(\\w+)`").matcher(row.group(1));
            while (name.find()) {
                checks.yes(name.group(1) + " is listed once", listed.add(name.group(1)));
            }
        }
        Set<String> there = new TreeSet<>();
        for (Method method : LeagueTables.class.getMethods()) {
            if (method.getDeclaringClass() == LeagueTables.class) {
                there.add(method.getName());
            }
        }
        checks.note("the methods listed", listed.toString(), there.toString());
    }
}
