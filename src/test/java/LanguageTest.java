import java.lang.reflect.Field;
import java.lang.reflect.Member;
import java.lang.reflect.Method;
import java.lang.reflect.Modifier;
import java.nio.file.Files;
import java.nio.file.Path;
import java.util.ArrayList;
import java.util.Arrays;
import java.util.List;
import java.util.Random;
import java.util.Set;
import java.util.TreeSet;
import java.util.regex.Matcher;
import java.util.regex.Pattern;

/** The rules of LANGUAGE.md that a look at the source and at the class can tell, and that no call ever throws. */
public final class LanguageTest {
    private static final String SOURCE = "src/main/java/RoadForMood.java";
    private static final String[] RULED_OUT = {"throw", "throws", "try", "catch", "finally", "synchronized", "assert",
        "import", "package", "protected", "volatile", "transient", "native", "strictfp", "equals", "hashCode", "toString",
        "Object", "System\\.(?!arraycopy)", "->", "::", "@", "Exact", "while"};
    private static final Pattern LIBRARY = Pattern.compile("\\b(Integer|Long|Math|System|Arrays|String|Character|Boolean)\\.\\w+\\(?");
    private static final Pattern LISTED = Pattern.compile("(Integer|Long|Math)\\.[a-z]\\w*\\(|System\\.arraycopy\\("
        + "|Arrays\\.(copyOf|copyOfRange|fill)\\(|Long\\.MIN_VALUE");
    private static int passed = 0;
    private static int failed = 0;

    private static void holds(boolean is, String what) {
        if (is) {
            passed++;
        } else {
            failed++;
            System.out.println(what);
        }
    }

    public static void main(String[] args) throws Exception {
        String source = Files.readString(Path.of(SOURCE));
        String code = source.replaceAll("(?s)/\\*.*?\\*/", "").replaceAll("//[^\n]*", "");
        for (String word : RULED_OUT) {
            String edge = Character.isLetter(word.charAt(0)) ? "\\b" : "";
            Matcher found = Pattern.compile(edge + word + (edge.isEmpty() || word.endsWith(")") ? "" : "\\b")).matcher(code);
            holds(!found.find(), "ruled out: " + word);
        }
        Matcher used = LIBRARY.matcher(code);
        while (used.find()) {
            holds(LISTED.matcher(used.group()).matches(), "not in the library's list: " + used.group());
        }
        holds(source.chars().allMatch(c -> c < 128), "a sign beyond 127");
        holds(RoadForMood.class.getDeclaredClasses().length + 1 <= 12, "more than twelve classes");
        face();
        for (Class<?> inner : RoadForMood.class.getDeclaredClasses()) {
            holds(Modifier.isStatic(inner.getModifiers()) && !Modifier.isPublic(inner.getModifiers()), inner + " is not as told");
            shape(inner);
        }
        shape(RoadForMood.class);
        lengths(code);
        storms();
        System.out.println(passed + " passed, " + failed + " failed");
        System.exit(failed == 0 ? 0 : 1);
    }

    private static void face() {
        Set<String> names = new TreeSet<>();
        for (Method method : RoadForMood.class.getDeclaredMethods()) {
            if (Modifier.isPublic(method.getModifiers())) {
                holds(names.add(method.getName()), "twice: " + method);
            }
        }
        holds(names.size() == 32, "public methods: " + names);
        List<Member> members = new ArrayList<>(Arrays.asList(RoadForMood.class.getDeclaredFields()));
        members.addAll(Arrays.asList(RoadForMood.class.getDeclaredMethods()));
        for (Member member : members) {
            int is = member.getModifiers();
            holds(Modifier.isPublic(is) || Modifier.isPrivate(is), "neither public nor private: " + member);
            holds(!(member instanceof Method) || Modifier.isPublic(is) || !names.contains(member.getName()),
                "bears a public name: " + member);
        }
    }

    private static void shape(Class<?> owner) {
        int fields = 0;
        for (Field field : owner.getDeclaredFields()) {
            boolean isStatic = Modifier.isStatic(field.getModifiers());
            fields += isStatic ? 0 : 1;
            holds(!isStatic || Modifier.isFinal(field.getModifiers()), "a static that is not final: " + field);
        }
        holds(fields <= 20, "too many fields: " + owner);
        for (Method method : owner.getDeclaredMethods()) {
            holds(method.getParameterCount() <= 7, "too many parameters: " + method);
        }
    }

    private static void lengths(String code) {
        int since = 0;
        int line = 0;
        for (String text : code.split("\n")) {
            line++;
            if (text.matches(" {4,8}\\S.*\\) \\{")) {
                since = line;
            }
            if (text.matches(" {4,8}}")) {
                holds(line - since <= 60, "a method longer than 60 lines at " + since);
            }
        }
    }

    /** Calls with all kinds of arguments, far beyond the 512th: none may throw. */
    private static void storms() throws Exception {
        int[] numbers = {-2, -1, 0, 1, 2, 3, 4, 5, 6, 9, 10, 12, 15, 16, 20, 21, 60, 61, 65535, 65536, 127, 128,
            Integer.MIN_VALUE, Integer.MAX_VALUE};
        for (int seed = 0; seed < 40; seed++) {
            Random random = new Random(seed);
            RoadForMood x = new RoadForMood();
            for (int i = 0; i < 3000; i++) {
                for (Method method : RoadForMood.class.getDeclaredMethods()) {
                    if (Modifier.isPublic(method.getModifiers()) && random.nextInt(32) == 0) {
                        Object[] arguments = new Object[method.getParameterCount()];
                        for (int k = 0; k < arguments.length; k++) {
                            int bound = random.nextBoolean() ? 11 : numbers.length;
                            arguments[k] = method.getParameterTypes()[k] == boolean.class ? random.nextBoolean()
                                : (Object) numbers[random.nextInt(bound)];
                        }
                        method.invoke(x, arguments);
                    }
                }
            }
            passed++;
        }
    }
}
