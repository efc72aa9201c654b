import java.lang.reflect.Field;
import java.lang.reflect.Method;
import java.lang.reflect.Modifier;
import java.nio.file.Files;
import java.nio.file.Path;
import java.util.ArrayList;
import java.util.List;
import java.util.regex.Matcher;
import java.util.regex.Pattern;

/** README.md: each call of its example answers as it says, and it tells of every call and constant there is. */
public final class ReadmeTest {
    private static final Pattern BLOCK = Pattern.compile("```java\n(RoadForMood x = new RoadForMood\\(\\);\n.*?)```", Pattern.DOTALL);
    private static final Pattern CALL = Pattern.compile("x\\.(\\w+)\\((.*)\\); +// (-?\\d+|[A-Z]+): \\S.*");
    private static final Pattern PARK = Pattern.compile("park\\(x, \"(.*)\"\\); +// (-?\\d+): \\S.*");
    private static final Pattern ROW = Pattern.compile("\\| `(\\w+)\\(([^)]*)\\)` \\|");
    private static int passed = 0;
    private static int failed = 0;

    private static void due(String what, Object got, Object want) {
        if (got.equals(want)) {
            passed++;
        } else {
            failed++;
            System.out.println(what + ": " + got + ", due is " + want);
        }
    }

    public static void main(String[] args) throws Exception {
        String text = Files.readString(Path.of("README.md"));
        Matcher block = BLOCK.matcher(text);
        due("there is an example", block.find(), true);
        String[] lines = block.group(1).split("\n");
        RoadForMood x = new RoadForMood();
        for (int i = 1; i < lines.length; i++) {
            example(x, lines[i]);
        }
        calls(text);
        constants(text);
        System.out.println(passed + " passed, " + failed + " failed");
        System.exit(failed == 0 ? 0 : 1);
    }

    private static void example(RoadForMood x, String line) throws Exception {
        Matcher park = PARK.matcher(line);
        Matcher call = CALL.matcher(line);
        if (park.matches()) {
            for (char sign : park.group(1).toCharArray()) {
                x.feed(sign);
            }
            due(line, (long) x.park(), number(park.group(2)));
        } else if (call.matches()) {
            due(line, ask(x, call.group(1), call.group(2)), number(call.group(3)));
        } else {
            due("an example's line: " + line, "no call", "a call and what it answers");
        }
    }

    private static long ask(RoadForMood x, String name, String arguments) throws Exception {
        String[] parts = arguments.isEmpty() ? new String[0] : arguments.split(", ");
        Object[] numbers = new Object[parts.length];
        for (int i = 0; i < parts.length; i++) {
            boolean is = parts[i].equals("true");
            numbers[i] = is || parts[i].equals("false") ? is : (Object) Integer.valueOf(parts[i]);
        }
        for (Method method : RoadForMood.class.getDeclaredMethods()) {
            if (Modifier.isPublic(method.getModifiers()) && method.getName().equals(name)) {
                return ((Number) method.invoke(x, numbers)).longValue();
            }
        }
        throw new NoSuchMethodException(name);
    }

    private static Long number(String text) throws Exception {
        boolean isName = Character.isLetter(text.charAt(0));
        return isName ? ((Number) RoadForMood.class.getField(text).get(null)).longValue() : Long.valueOf(text);
    }

    /** A row of a table for each call, with as many arguments as it has. */
    private static void calls(String text) {
        List<String> told = new ArrayList<>();
        Matcher row = ROW.matcher(text);
        while (row.find()) {
            told.add(row.group(1) + " " + (row.group(2).isEmpty() ? 0 : row.group(2).split(", ").length));
        }
        List<String> there = new ArrayList<>();
        for (Method method : RoadForMood.class.getDeclaredMethods()) {
            if (Modifier.isPublic(method.getModifiers())) {
                there.add(method.getName() + " " + method.getParameterCount());
            }
        }
        told.sort(null);
        there.sort(null);
        due("calls", told, there);
    }

    private static void constants(String text) throws Exception {
        for (Field field : RoadForMood.class.getFields()) {
            boolean isLeast = field.get(null).equals(Long.MIN_VALUE);
            String row = "| `" + field.getName() + "` | " + (isLeast ? "`Long.MIN_VALUE`" : field.get(null)) + " |";
            due(row, text.contains(row), true);
        }
    }
}
