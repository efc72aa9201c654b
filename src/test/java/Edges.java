import java.util.function.Supplier;
import java.util.function.ToLongFunction;

/**
 * What the edge tests share. Each sentence of the document that names a boundary case has one edge() of its own,
 * on a new object x; a refused() or asked() call is made on one of two objects alike, which must be alike behind it.
 */
abstract class Edges {
    static final long NO = Long.MIN_VALUE;
    static final int MIN = Integer.MIN_VALUE, MAX = Integer.MAX_VALUE, ALL = 65535, NOTHING = -999999;
    static RoadForMood x;
    static int held = 0, broken = 0;
    private static StringBuilder faults;

    interface Change {
        void on(RoadForMood o);
    }

    /** One sentence of the document, told by its words, and the calls that would answer otherwise if it were broken. */
    static void edge(String sentence, Runnable calls) {
        x = new RoadForMood();
        faults = new StringBuilder();
        try {
            calls.run();
        } catch (RuntimeException thrown) {
            faults.append("  threw ").append(thrown).append('\n');
        }
        if (faults.length() == 0) {
            held++;
        } else {
            broken++;
            System.out.println(sentence + "\n" + faults);
        }
    }

    static void end() {
        System.out.println(held + " edges hold, " + broken + " do not");
        System.exit(broken == 0 ? 0 : 1);
    }

    static void due(String call, long got, long want) {
        if (got != want) {
            faults.append("  ").append(call).append(" answered ").append(got).append(", due is ").append(want).append('\n');
        }
    }

    /** A refused call on an object as the supplier makes it: the answer that is due, and nothing has changed. */
    static void refused(String call, long want, Supplier<RoadForMood> made, ToLongFunction<RoadForMood> asked) {
        if (faults.length() > 0) {
            return; // a number just beyond was not refused: one far beyond may go on for hours
        }
        RoadForMood one = made.get();
        due(call, asked.applyAsLong(one), want);
        alike(call, one, made.get());
    }

    static void refused(String call, long want, ToLongFunction<RoadForMood> asked) {
        refused(call, want, Edges::lively, asked);
    }

    /** A call that only asks, whatever it answers: nothing has changed. */
    static void asked(String call, ToLongFunction<RoadForMood> question) {
        RoadForMood one = lively();
        question.applyAsLong(one);
        alike(call, one, lively());
    }

    static void alike(String call, RoadForMood one, RoadForMood other) {
        String got = picture(one);
        String want = picture(other);
        if (!got.equals(want)) {
            faults.append("  behind ").append(call).append(" all was\n    ").append(got).append("\n    and should have been\n    ")
                .append(want).append('\n');
        }
    }

    static void feed(RoadForMood o, String text) {
        for (int i = 0; i < text.length(); i++) {
            o.feed(text.charAt(i));
        }
    }

    static int park(String text) {
        feed(x, text);
        return x.park();
    }

    static void walkers(int many) {
        for (int i = 0; i < many; i++) {
            x.walker(0, 0, 0, 0);
        }
    }

    /** A drunk one of v 0 stays where it is, and in its mood under the park that stillPark() reads. */
    static int still(int cell, int mood) {
        return x.walker(3, 0, cell, mood);
    }

    static void stillPark() {
        due("a park for still ones", park("calm 1 k=3"), 0);
    }

    static RoadForMood with(RoadForMood o, Change change) {
        change.on(o);
        return o;
    }

    /** Some of all that there can be, none of it full, an image of another state, a trace, a tape that is a park. */
    static RoadForMood lively() {
        RoadForMood o = new RoadForMood();
        o.road(0, 0b0000_0011_1100_1111);
        o.road(1, 0b1111_0000_0000_0110);
        o.road(2, 0b0000_0000_0111_1000);
        o.keep(1 << 6 | 1 << 14);
        o.walker(6, 4, 3, 1);
        o.walker(4, 2, 7, 0);
        o.walker(5, 9, 7, 2);
        o.walker(3, 1, 12, 3);
        o.walker(0, 0, 0, 0);
        o.row(0, 0, 9);
        o.row(0, 3, 2);
        feed(o, "rain 3;stir 2 v>3;calm 1 m=2");
        o.park();
        o.see(1, 3, true);
        o.plan(3, 9);
        o.plan(0, 0);
        o.book(4, 2);
        o.pass(5);
        feed(o, "rain");
        o.image();
        feed(o, " 9");
        o.see(4, 2, false);
        o.plan(1, 2);
        o.book(0, 1);
        o.away(3, true);
        o.pass(2);
        o.set(4, 0, 9);
        o.act(1, 2, 5);
        return o;
    }

    /** All that can be asked, then the park that the tape is, then all again as the image has it. */
    static String picture(RoadForMood o) {
        StringBuilder text = new StringBuilder();
        look(o, text);
        text.append(" park ").append(o.park()).append(' ').append(o.told(1)).append(" undo ").append(o.undo());
        look(o, text);
        return text.append(" park ").append(o.park()).append(' ').append(o.told(1)).toString();
    }

    private static void look(RoadForMood o, StringBuilder text) {
        text.append(" told");
        for (int what = 0; what < 14; what++) {
            text.append(' ').append(o.told(what));
        }
        text.append(" count");
        for (int what = 0; what < 7; what++) {
            text.append(' ').append(o.count(what));
        }
        text.append(" trace");
        for (int i = 0; i < 8; i++) {
            text.append(' ').append(o.trace(i));
        }
        text.append(" done ").append(o.done(0)).append(' ').append(o.done(1)).append(" looked ").append(o.looked());
        for (int w = 0; w < o.count(0); w++) {
            text.append(" walker ").append(w);
            for (int what = 0; what < 10; what++) {
                text.append(' ').append(o.of(w, what));
            }
            text.append(" felt ").append(o.felt(w)).append(' ').append(o.where(w)).append(' ').append(o.strays(w));
            text.append(" on ").append(o.on(7, 10 + w)).append(' ').append(o.on(9, 20 + w));
        }
        text.append(" on ").append(o.on(60, 0)).append(' ').append(o.on(60, 1));
    }
}
