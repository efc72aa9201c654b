import java.util.ArrayList;
import java.util.List;
import java.util.regex.Matcher;
import java.util.regex.Pattern;

/**
 * The document once more, written as plainly as can be and in another way than the program:
 * parks are matched by a regular expression and read from their text at every use, sets are all tried.
 */
public final class Model {
    private static final Pattern PARK = Pattern.compile(parkPattern());
    private static final int[] ABOVE = {-1, 0, 0, 0, 1, 2, 3};

    static final class One {
        int number, kind, v, cell, mood, moved;
        boolean away;
        int[] row = new int[4];

        One copy() {
            One one = new One();
            one.number = number;
            one.kind = kind;
            one.v = v;
            one.cell = cell;
            one.mood = mood;
            one.moved = moved;
            one.away = away;
            one.row = row.clone();
            return one;
        }

        boolean is(int k) {
            for (int at = kind; at >= 0; at = ABOVE[at]) {
                if (at == k) {
                    return true;
                }
            }
            return false;
        }
    }

    static final class All {
        int step, keepers, parks;
        int[] road = new int[4];
        String park = "";
        StringBuilder tape = new StringBuilder();
        List<One> ones = new ArrayList<>();
        List<int[]> seen = new ArrayList<>(), plan = new ArrayList<>(), book = new ArrayList<>();

        All copy() {
            All all = new All();
            all.step = step;
            all.keepers = keepers;
            all.parks = parks;
            all.road = road.clone();
            all.park = park;
            all.tape = new StringBuilder(tape);
            for (One one : ones) {
                all.ones.add(one.copy());
            }
            all.seen.addAll(seen);
            all.plan.addAll(plan);
            all.book.addAll(book);
            return all;
        }

        boolean wrong(One one) {
            return (road[one.mood] & 1 << one.cell) == 0;
        }

        boolean company(One one) {
            return ones.stream().anyMatch(o -> o != one && !o.away && o.cell == one.cell);
        }

        int rain() {
            int rain = 0;
            for (String clause : park.split(";")) {
                if (clause.startsWith("rain")) {
                    rain = Integer.parseInt(clause.substring(5));
                }
            }
            return rain;
        }

        boolean rains() {
            return rain() > 0 && step % rain() == 0;
        }

        int sum(One one) {
            int sum = 0;
            for (String clause : park.split(";")) {
                String[] words = clause.split(" ");
                if (words.length == 3 && new Reader(words[2], one, step).either()) {
                    sum += (words[0].equals("stir") ? 1 : -1) * Integer.parseInt(words[1]);
                }
            }
            return sum;
        }

        int sway(One one) {
            int sum = sum(one);
            switch (one.kind) {
                case 0: return sum;
                case 1: return company(one) ? 0 : sum;
                case 2: return sum * 2;
                case 3: return sum + 1;
                case 4: return company(one) ? 2 : sum;
                case 5: return wrong(one) ? sum * 2 : 0;
                default: return sum + 1 + one.row[step % 4];
            }
        }

        int pace(One one) {
            if (rains()) {
                return 0;
            }
            switch (one.kind) {
                case 0: case 1: return 1;
                case 2: return 1 - step % 2;
                case 3: case 6: return one.v % 3;
                case 4: return company(one) ? 15 : 1;
                default: return 2 - step % 2;
            }
        }

        void step() {
            All before = copy();
            for (int i = 0; i < ones.size(); i++) {
                One one = ones.get(i);
                One was = before.ones.get(i);
                if (!was.away) {
                    one.cell = (was.cell + before.pace(was)) % 16;
                    one.mood = ((was.mood + before.sway(was)) % 4 + 4) % 4;
                }
            }
            for (One one : ones) {
                if (!one.away && wrong(one) && (keepers & 1 << one.cell) != 0) {
                    one.moved++;
                    for (int m = 3, own = one.mood; m >= 0; m--) {
                        if ((road[m] & 1 << one.cell) != 0) {
                            own = m;
                        }
                        if (m == 0) {
                            one.mood = own;
                        }
                    }
                }
            }
            step++;
        }

        All behind(int n) {
            All all = copy();
            for (int i = 0; i < n; i++) {
                all.step();
            }
            return all;
        }

        int wrongOnes() {
            return (int) ones.stream().filter(o -> !o.away && wrong(o)).count();
        }

        int moved() {
            return ones.stream().mapToInt(o -> o.moved).sum();
        }

        int trouble() {
            All all = copy();
            int sum = 0;
            for (int n = 1; n <= 12; n++) {
                all.step();
                sum += all.wrongOnes();
            }
            return sum;
        }

        boolean asSeen() {
            return seen.stream().allMatch(s -> {
                All all = behind(s[1]);
                return all.wrong(all.ones.get(s[0])) == (s[2] == 1);
            });
        }
    }

    static final class Reader {
        final String text;
        final int[] facts;
        int at;

        Reader(String text, One one, int step) {
            this.text = text;
            facts = new int[] {one.number, one.kind, one.v, one.cell, one.mood, step % 10};
        }

        boolean is(char c) {
            boolean is = at < text.length() && text.charAt(at) == c;
            at += is ? 1 : 0;
            return is;
        }

        boolean either() {
            boolean holds = both();
            while (is('|')) {
                holds |= both();
            }
            return holds;
        }

        boolean both() {
            boolean holds = part();
            while (is('&')) {
                holds &= part();
            }
            return holds;
        }

        boolean part() {
            if (is('!')) {
                return !part();
            }
            if (is('(')) {
                boolean holds = either();
                at++;
                return holds;
            }
            int fact = facts["pkvcms".indexOf(text.charAt(at))];
            char sign = text.charAt(at + 1);
            int end = at + 2;
            while (end < text.length() && Character.isDigit(text.charAt(end))) {
                end++;
            }
            int n = Integer.parseInt(text.substring(at + 2, end));
            at = end;
            return sign == '<' ? fact < n : sign == '=' ? fact == n : fact > n;
        }
    }

    private All now = new All();
    private All kept;
    private final List<Integer> ran = new ArrayList<>();

    private static String parkPattern() {
        String number = "(?:0|[1-9][0-9]?)";
        String test = "[pkvcms][<=>]" + number;
        String part = test;
        for (int open = 1; open <= 5; open++) {
            part = "(?:" + test + "|!" + part + "|\\(" + part + "(?:[&|]" + part + ")*\\))";
        }
        String clause = "(?:rain " + number + "|(?:stir|calm) " + number + " " + part + "(?:[&|]" + part + ")*)";
        return clause + "(?:;" + clause + "){0,9}";
    }

    /** The fault of a text, or -1 if it is a park. */
    static int fault(String text) {
        Matcher whole = PARK.matcher(text);
        if (whole.matches()) {
            return -1;
        }
        for (int size = 1; size <= text.length(); size++) {
            Matcher start = PARK.matcher(text.substring(0, size));
            if (!start.matches() && !start.hitEnd()) {
                return size - 1;
            }
        }
        return text.length();
    }

    private One one(int w) {
        return w >= 0 && w < now.ones.size() ? now.ones.get(w) : null;
    }

    public int feed(int sign) {
        if (sign < 0 || sign > 127) {
            return -2;
        }
        return now.tape.length() == 100 ? -4 : now.tape.append((char) sign).length();
    }

    public int park() {
        if (now.parks == 5) {
            return -4;
        }
        String text = now.tape.toString();
        now.tape.setLength(0);
        int fault = fault(text);
        if (fault >= 0) {
            return -10 - fault;
        }
        now.park = text;
        return now.parks++;
    }

    public int road(int mood, int cells) {
        if (mood < 0 || mood > 3) {
            return -1;
        }
        if (cells < 0 || cells > 65535) {
            return -2;
        }
        int was = now.road[mood];
        now.road[mood] = cells;
        return was;
    }

    public int keep(int cells) {
        if (cells < 0 || cells > 65535) {
            return -2;
        }
        int was = now.keepers;
        now.keepers = cells;
        return was;
    }

    public int walker(int kind, int v, int cell, int mood) {
        if (kind < 0 || kind > 6 || cell < 0 || cell > 15 || mood < 0 || mood > 3) {
            return -1;
        }
        if (v < 0 || v > 9) {
            return -2;
        }
        if (now.ones.size() == 6) {
            return -4;
        }
        One one = new One();
        one.number = now.ones.size();
        one.kind = kind;
        one.v = v;
        one.cell = cell;
        one.mood = mood;
        now.ones.add(one);
        return one.number;
    }

    public int of(int walker, int what) {
        One one = one(walker);
        if (one == null || what < 0 || what > 9) {
            return -999999;
        }
        return new int[] {one.kind, one.v, one.cell, one.mood, one.away ? 1 : 0, one.moved, now.wrong(one) ? 1 : 0,
            now.company(one) ? 1 : 0, now.sway(one), now.pace(one)}[what];
    }

    public int row(int walker, int k, int n) {
        One one = one(walker);
        if (one == null || k < 0 || k > 3) {
            return -1;
        }
        if (n < 0 || n > 9) {
            return -2;
        }
        if (one.kind != 6) {
            return -3;
        }
        int was = one.row[k];
        one.row[k] = n;
        return was;
    }

    public int set(int walker, int what, int n) {
        One one = one(walker);
        if (one == null || what < 0 || what > 1 || n < 0 || n > (what == 0 ? 15 : 3)) {
            return -1;
        }
        int was = what == 0 ? one.cell : one.mood;
        if (what == 0) {
            one.cell = n;
        } else {
            one.mood = n;
        }
        return was;
    }

    public int away(int walker, boolean is) {
        One one = one(walker);
        if (one == null) {
            return -1;
        }
        int was = one.away ? 1 : 0;
        one.away = is;
        return was;
    }

    public int told(int what) {
        int any = 0;
        int one = 0;
        for (int cell = 0; cell < 16; cell++) {
            int roads = 0;
            for (int road : now.road) {
                roads += road >> cell & 1;
            }
            any |= roads > 0 ? 1 << cell : 0;
            one |= roads == 1 ? 1 << cell : 0;
        }
        switch (what) {
            case 0: return now.step;
            case 1: return now.rain();
            case 2: return now.rains() ? 1 : 0;
            case 3: return now.keepers;
            case 4: return now.wrongOnes();
            case 5: return now.moved();
            case 6: return now.trouble();
            case 7: return any;
            case 8: return one;
            case 10: case 11: case 12: case 13: return now.road[what - 10];
            default: return -1;
        }
    }

    public int pass(int n) {
        if (n < 0 || n > 60) {
            return -2;
        }
        if (now.step + n > 9999) {
            return -3;
        }
        now = now.behind(n);
        return now.step;
    }

    public int on(int n, int what) {
        boolean isCell = what >= 10 && what < 10 + now.ones.size();
        boolean isMood = what >= 20 && what < 20 + now.ones.size();
        if (what != 0 && what != 1 && !isCell && !isMood) {
            return -1;
        }
        if (n < 0 || n > 60) {
            return -2;
        }
        All all = now.behind(n);
        return what == 0 ? all.wrongOnes() : what == 1 ? all.moved()
            : isCell ? all.ones.get(what - 10).cell : all.ones.get(what - 20).mood;
    }

    public int strays(int walker) {
        if (one(walker) == null) {
            return -1;
        }
        All all = now.copy();
        for (int n = 0; n <= 60; n++, all.step()) {
            if (all.wrong(all.ones.get(walker))) {
                return n;
            }
        }
        return -5;
    }

    public int meet(int one, int other) {
        if (one(one) == null || one(other) == null) {
            return -1;
        }
        if (one == other) {
            return -2;
        }
        All all = now.copy();
        for (int n = 0; n <= 60; n++, all.step()) {
            One a = all.ones.get(one);
            One b = all.ones.get(other);
            if (a.cell == b.cell && a.mood == b.mood) {
                return n;
            }
        }
        return -5;
    }

    public int posts(int n, int what) {
        if (what != 0 && what != 1) {
            return -1;
        }
        if (n < 0 || n > 3) {
            return -2;
        }
        int best = -1;
        int least = 0;
        for (int set = 0; set < 65536; set++) {
            if (Integer.bitCount(set) == n) {
                All all = now.copy();
                all.keepers = set;
                int trouble = all.trouble();
                if (best < 0 || trouble < least) {
                    best = set;
                    least = trouble;
                }
            }
        }
        return what == 0 ? best : least;
    }

    public int gravel() {
        int least = now.trouble();
        int best = -5;
        for (int place = 0; place < 64; place++) {
            All all = now.copy();
            all.road[place / 16] ^= 1 << place % 16;
            int trouble = all.trouble();
            if (trouble < least) {
                least = trouble;
                best = 100 * (place / 16) + place % 16;
            }
        }
        return best;
    }

    public int see(int walker, int n, boolean isWrong) {
        if (walker == -1) {
            now.seen.clear();
            return 0;
        }
        if (one(walker) == null) {
            return -1;
        }
        if (n < 0 || n > 20) {
            return -2;
        }
        if (now.seen.size() == 6) {
            return -4;
        }
        now.seen.add(new int[] {walker, n, isWrong ? 1 : 0});
        return now.seen.size();
    }

    public int felt(int walker) {
        if (one(walker) == null) {
            return -1;
        }
        int bits = 0;
        for (int mood = 0; mood < 4; mood++) {
            All all = now.copy();
            all.ones.get(walker).mood = mood;
            bits += all.asSeen() ? 1 << mood : 0;
        }
        return bits;
    }

    public int where(int walker) {
        if (one(walker) == null) {
            return -1;
        }
        int bits = 0;
        for (int cell = 0; cell < 16; cell++) {
            All all = now.copy();
            all.ones.get(walker).cell = cell;
            bits += all.asSeen() ? 1 << cell : 0;
        }
        return bits;
    }

    public int firm(int walker, int what) {
        if (one(walker) == null || what != 0 && what != 1) {
            return -1;
        }
        List<Integer> firm = new ArrayList<>();
        for (int v = 0; v < 10; v++) {
            All all = now.copy();
            all.ones.get(walker).v = v;
            if (all.asSeen()) {
                firm.add(v);
            }
        }
        return what == 0 ? firm.size() : firm.isEmpty() ? -5 : firm.get(0);
    }

    public long odds(int walker, int n, int part) {
        if (one(walker) == null || n < 0 || n > 60 || part < 0 || part > 1) {
            return Long.MIN_VALUE;
        }
        int wrong = 0;
        for (int mood = 0; mood < 4; mood++) {
            All all = now.copy();
            all.ones.get(walker).mood = mood;
            all = all.behind(n);
            wrong += all.wrong(all.ones.get(walker)) ? 1 : 0;
        }
        return lowest(wrong, 4)[part];
    }

    public long mean(int n, int part) {
        if (now.ones.isEmpty() || n < 0 || n > 60 || part < 0 || part > 1) {
            return Long.MIN_VALUE;
        }
        return lowest(now.behind(n).moved() - now.moved(), now.ones.size())[part];
    }

    private static int[] lowest(int above, int below) {
        for (int by = below; by > 1; by--) {
            if (above % by == 0 && below % by == 0) {
                return new int[] {above / by, below / by};
            }
        }
        return new int[] {above, below};
    }

    public int plan(int what, int n) {
        if (what == -1) {
            now.plan.clear();
            return 0;
        }
        if (what < 0 || what > 3 || (what == 1 || what == 2) && one(n) == null || what == 3 && (n < 0 || n > 15)) {
            return -1;
        }
        if (now.plan.size() == 8) {
            return -4;
        }
        now.plan.add(new int[] {what, n});
        return now.plan.size();
    }

    public int done(int what) {
        if (what != 0 && what != 1) {
            return -1;
        }
        All all = now.copy();
        for (int[] row : now.plan) {
            if (row[0] == 0) {
                all.step();
            } else if (row[0] == 3) {
                all.keepers ^= 1 << row[1];
            } else {
                all.ones.get(row[1]).away = row[0] == 1;
            }
        }
        return what == 0 ? all.wrongOnes() : all.moved();
    }

    public int book(int walker, int mood) {
        if (walker == -1) {
            now.book.clear();
            return 0;
        }
        if (one(walker) == null || mood < 0 || mood > 3) {
            return -1;
        }
        if (now.book.size() == 8) {
            return -4;
        }
        now.book.add(new int[] {walker, mood});
        return now.book.size();
    }

    public int looked() {
        for (int i = 0; i < now.book.size(); i++) {
            if (one(now.book.get(i)[0]).mood != now.book.get(i)[1]) {
                return i;
            }
        }
        return -5;
    }

    public int act(int walker, int act, int x) {
        ran.clear();
        One one = one(walker);
        if (one == null || act < 0 || act > 2) {
            return 0;
        }
        return run(one, act, one.kind, x);
    }

    /** The act's body of a kind, or of the next kind above that has one. */
    private int run(One one, int act, int kind, int x) {
        int[][] has = {{1, 11, 0, 0, 0, 51, 0}, {2, 0, 21, 0, 0, 0, 61}, {3, 0, 0, 31, 41, 0, 0}};
        while (has[act][kind] == 0) {
            kind = ABOVE[kind];
        }
        int body = has[act][kind];
        ran.add(body);
        switch (body) {
            case 1: return x + one.number;
            case 2: return run(one, 0, one.kind, x) - one.v;
            case 3: return run(one, 1, one.kind, x) * 2;
            case 11: return run(one, 0, 0, x * 3);
            case 21: return -run(one, 1, 0, x);
            case 31: return run(one, 2, 0, x) ^ 7;
            case 41: return run(one, 2, 1, x - 1) + run(one, 0, one.kind, 2);
            case 51: return run(one, 0, 2, x) ^ one.number;
            default: return run(one, 1, 3, x) + one.v;
        }
    }

    public int trace(int i) {
        return i >= 0 && i < Math.min(20, ran.size()) ? ran.get(i) : -1;
    }

    public int as(int walker, int k) {
        One one = one(walker);
        if (one == null || k < 0 || k > 6) {
            return -1;
        }
        return one.is(k) ? one.v : -6;
    }

    public int image() {
        kept = now.copy();
        return now.ones.size();
    }

    public int undo() {
        if (kept == null) {
            return -3;
        }
        now = kept.copy();
        return now.ones.size();
    }

    public int count(int what) {
        int[] counts = {now.ones.size(), now.parks, now.seen.size(), now.plan.size(), now.book.size(),
            now.tape.length(), ran.size()};
        return what >= 0 && what < counts.length ? counts[what] : -1;
    }
}
