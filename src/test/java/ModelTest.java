import java.lang.reflect.Method;
import java.lang.reflect.Modifier;
import java.util.ArrayList;
import java.util.Arrays;
import java.util.Comparator;
import java.util.List;
import java.util.Random;

/** Runs of 512 calls, made from fixed seeds, asked of the program and of the model. */
public final class ModelTest {
    private static final String[] FREQUENT = {"set", "pass", "pass", "see", "walker", "road", "keep", "plan", "row", "away", "tape"};
    private static final String SIGNS = "rain 1;st calm&|!()<=>pkvcms02";
    private final Random random;
    private final RoadForMood program = new RoadForMood();
    private final Model model = new Model();
    private final StringBuilder log = new StringBuilder();
    private int calls = 0;

    private ModelTest(long seed) {
        random = new Random(seed);
    }

    public static void main(String[] args) throws Exception {
        int runs = args.length > 0 ? Integer.parseInt(args[0]) : 300;
        long first = args.length > 1 ? Long.parseLong(args[1]) : 1;
        int failed = 0;
        for (int run = 0; run < runs; run++) {
            ModelTest test = new ModelTest(first + run);
            String fault = test.run();
            if (fault != null) {
                failed++;
                System.out.println("seed " + (first + run) + ": " + fault);
            }
        }
        System.out.println((runs - failed) + " passed, " + failed + " failed");
        System.exit(failed == 0 ? 0 : 1);
    }

    private String run() throws Exception {
        List<Method> face = new ArrayList<>();
        for (Method method : RoadForMood.class.getDeclaredMethods()) {
            if (Modifier.isPublic(method.getModifiers())) {
                face.add(method);
            }
        }
        face.sort(Comparator.comparing(Method::getName));
        boolean isLively = random.nextBoolean();
        String fault = isLively ? lay() : null;
        while (fault == null && calls < 512) {
            String name = random.nextInt(3) == 0 ? FREQUENT[random.nextInt(FREQUENT.length)]
                : face.get(random.nextInt(face.size())).getName();
            if (name.equals("undo") && random.nextInt(4) != 0 || name.equals("posts") && random.nextInt(3) != 0) {
                continue;
            }
            fault = name.equals("tape") ? feedPark() : call(name, arguments(name));
        }
        return fault;
    }

    /** Roads and walkers to begin with, so that few calls are refused. */
    private String lay() throws Exception {
        String fault = null;
        for (int mood = 0; mood < 4 && fault == null; mood++) {
            fault = call("road", mood, cells());
        }
        for (int w = 0; w < 6 && fault == null; w++) {
            fault = call("walker", random.nextInt(7), random.nextInt(10), random.nextInt(16), random.nextInt(4));
        }
        return fault == null ? feedPark() : fault;
    }

    private String feedPark() throws Exception {
        String text = park();
        String fault = null;
        for (int i = 0; i < text.length() && fault == null && calls < 512; i++) {
            fault = call("feed", (int) text.charAt(i));
        }
        return fault == null ? call("park") : fault;
    }

    private String call(String name, Object... arguments) throws Exception {
        Class<?>[] types = new Class<?>[arguments.length];
        for (int i = 0; i < types.length; i++) {
            types[i] = arguments[i] instanceof Boolean ? boolean.class : int.class;
        }
        Object got = RoadForMood.class.getMethod(name, types).invoke(program, arguments);
        Object due = Model.class.getMethod(name, types).invoke(model, arguments);
        calls++;
        String said = name + Arrays.toString(arguments) + " -> " + got;
        log.append(said).append('\n');
        return got.equals(due) ? null : said + ", due is " + due + " behind\n" + log;
    }

    private Object[] arguments(String name) {
        switch (name) {
            case "feed": return new Object[] {random.nextInt(20) == 0 ? any(128)
                : (int) SIGNS.charAt(random.nextInt(SIGNS.length()))};
            case "road": return new Object[] {any(4), any(40) == 39 ? any(65536) : cells()};
            case "keep": return new Object[] {random.nextInt(20) == 0 ? any(65536) : cells()};
            case "walker": return new Object[] {any(7), any(10), any(16), any(4)};
            case "of": return new Object[] {any(6), any(10)};
            case "row": return new Object[] {any(6), any(4), any(10)};
            case "set": return random.nextBoolean() ? new Object[] {any(6), 0, any(16)} : new Object[] {any(6), any(2), any(4)};
            case "away": return new Object[] {any(6), random.nextInt(3) == 0};
            case "told": return new Object[] {any(14)};
            case "pass": return new Object[] {random.nextBoolean() ? any(61) : random.nextInt(4)};
            case "on": return random.nextBoolean() ? new Object[] {any(61), any(2)}
                : new Object[] {any(61), 10 * (1 + random.nextInt(2)) + any(6)};
            case "posts": return new Object[] {any(4), any(2)};
            case "see": return new Object[] {random.nextInt(5) == 0 ? -1 : any(6), any(21), random.nextBoolean()};
            case "odds": return new Object[] {any(6), any(61), any(2)};
            case "mean": return new Object[] {any(61), any(2)};
            case "plan": return new Object[] {random.nextInt(12) == 0 ? -1 : any(4), any(random.nextBoolean() ? 6 : 16)};
            case "book": return new Object[] {random.nextInt(8) == 0 ? -1 : any(6), any(4)};
            case "act": return new Object[] {any(6), any(3), random.nextBoolean() ? random.nextInt(50) : random.nextInt()};
            case "as": return new Object[] {any(6), any(7)};
            case "meet": return new Object[] {any(6), any(6)};
            case "firm": return new Object[] {any(6), any(2)};
            case "strays": case "felt": case "where": return new Object[] {any(6)};
            case "done": return new Object[] {any(2)};
            case "trace": return new Object[] {any(8)};
            case "count": return new Object[] {any(7)};
            default: return new Object[0];
        }
    }

    /** A number that fits, or rarely one that does not. */
    private Integer any(int bound) {
        if (random.nextInt(25) != 0) {
            return random.nextInt(bound);
        }
        int[] odd = {-1, bound, -2, bound + 1, Integer.MIN_VALUE, Integer.MAX_VALUE, 9, 14};
        return odd[random.nextInt(odd.length)];
    }

    private Integer cells() {
        return random.nextInt(65536) & random.nextInt(65536) | (random.nextBoolean() ? random.nextInt(65536) : 0);
    }

    private String park() {
        StringBuilder text = new StringBuilder();
        int clauses = 1 + random.nextInt(random.nextInt(6) == 0 ? 11 : 4);
        for (int i = 0; i < clauses; i++) {
            String clause = random.nextInt(4) == 0 ? "rain " + number(random.nextInt(5) == 0 ? 100 : 8)
                : (random.nextBoolean() ? "stir " : "calm ") + number(random.nextInt(3) == 0 ? 100 : 5) + " " + either(0);
            if (text.length() + clause.length() < 100) {
                text.append(i == 0 ? "" : ";").append(clause);
            }
        }
        if (text.length() > 0 && random.nextInt(3) == 0) {
            spoil(text);
        }
        return text.toString();
    }

    private void spoil(StringBuilder text) {
        int at = random.nextInt(text.length());
        switch (random.nextInt(4)) {
            case 0: text.setLength(at); break;
            case 1: text.deleteCharAt(at); break;
            case 2: text.insert(at, text.charAt(random.nextInt(text.length()))); break;
            default: text.setCharAt(at, (char) random.nextInt(128)); break;
        }
    }

    private String either(int open) {
        StringBuilder text = new StringBuilder(part(open));
        while (random.nextInt(3) == 0) {
            text.append(random.nextBoolean() ? '|' : '&').append(part(open));
        }
        return text.toString();
    }

    private String part(int open) {
        boolean isDeep = open < (random.nextInt(30) == 0 ? 6 : 5);
        int form = isDeep ? random.nextInt(5) : 4;
        if (form < 2) {
            return form == 0 ? "!" + part(open + 1) : "(" + either(open + 1) + ")";
        }
        int letter = random.nextInt(6);
        int bound = new int[] {6, 7, 10, 16, 4, 10}[letter];
        return "" + "pkvcms".charAt(letter) + "<=>".charAt(random.nextInt(3)) + number(random.nextInt(8) == 0 ? 100 : bound);
    }

    private int number(int bound) {
        return random.nextInt(bound);
    }
}
