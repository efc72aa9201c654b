import java.util.function.Supplier;

/** The edges of promises 28 to 33: acts and their trace, kinds, the image, counts. */
public final class ActEdgesTest extends Edges {
    private static final String NINE = "stir 9 p=0";

    public static void main(String[] args) {
        edges();
        end();
    }

    static void edges() {
        acts();
        wraps();
        trace();
        as();
        image();
        undo();
        undoFrees();
        undoIsWhole();
        count();
        constants();
    }

    private static RoadForMood untraced() {
        return with(lively(), o -> o.act(-1, 0, 0));
    }

    private static void acts() {
        edge("28: 0, and no TRACE then: no such WALKER", () -> {
            for (int walker : new int[] {-1, 5, MIN, MAX}) {
                x = lively();
                due("count(6)", x.count(6), 7);
                due("act(" + walker + ", 0, 5)", x.act(walker, 0, 5), 0);
                due("count(6)", x.count(6), 0);
                due("trace(0)", x.trace(0), -1);
            }
        });
        edge("28: 0, and no TRACE then: no such act", () -> {
            for (int act : new int[] {-1, 3, MIN, MAX}) {
                x = lively();
                due("act(0, " + act + ", 5)", x.act(0, act, 5), 0);
                due("count(6)", x.count(6), 0);
                due("trace(0)", x.trace(0), -1);
            }
        });
        edge("28: refused, nothing else has changed", () -> {
            refused("act(5, 0, 5)", 0, ActEdgesTest::untraced, o -> o.act(5, 0, 5));
            refused("act(0, 3, 5)", 0, ActEdgesTest::untraced, o -> o.act(0, 3, 5));
            refused("act(0, -1, 5)", 0, ActEdgesTest::untraced, o -> o.act(0, -1, 5));
        });
        edge("28: an act changes nothing but THE TRACE", () -> {
            Supplier<RoadForMood> told = () -> with(lively(), o -> o.act(0, 2, 3));
            refused("act(0, 2, 3)", told.get().act(0, 2, 3), told, o -> o.act(0, 2, 3));
        });
        edge("28: acts 0 and 2, the first and the last, of the first and the last of six", () -> {
            for (int i = 0; i < 6; i++) {
                x.walker(0, i + 1, 0, 0);
            }
            due("act(0, 0, 4)", x.act(0, 0, 4), 4);
            due("act(0, 2, 4)", x.act(0, 2, 4), 6);
            due("act(5, 0, 4)", x.act(5, 0, 4), 9);
            due("act(5, 2, 4)", x.act(5, 2, 4), 6);
            due("act(6, 0, 4)", x.act(6, 0, 4), 0);
        });
        edge("28: an AWAY one acts, too", () -> {
            walkers(1);
            x.away(0, true);
            due("act(0, 0, 4)", x.act(0, 0, 4), 4);
            due("count(6)", x.count(6), 1);
        });
    }

    /** An act of the second one, so that its number is 1, of v 9. */
    private static void acted(int kind, int act, int number, int want) {
        x = new RoadForMood();
        walkers(1);
        x.walker(kind, 9, 0, 0);
        due("act " + act + " of kind " + kind + " with " + number, x.act(1, act, number), want);
    }

    private static void wraps() {
        edge("28: ints, wrapping: x + i above the greatest int", () -> {
            acted(0, 0, MAX, MIN);
            acted(0, 0, MAX - 1, MAX);
        });
        edge("28: ints, wrapping: strolls(x) - v below the least int", () -> {
            acted(0, 1, MIN, MAX - 7);
            acted(0, 1, MIN + 8, MIN);
            acted(0, 1, MIN + 7, MAX);
        });
        edge("28: ints, wrapping: looks(x) * 2", () -> {
            acted(0, 2, (1 << 30) + 8, MIN);
            acted(0, 2, (1 << 30) + 7, MAX - 1);
            acted(0, 2, MIN + 8, 0);
        });
        edge("28: ints, wrapping: x * 3", () -> {
            acted(1, 0, MAX, MAX - 1);
            acted(1, 0, 715827882, MAX);
            acted(1, 0, 715827883, MIN + 2);
            acted(1, 0, MIN, MIN + 1);
        });
        edge("28: ints, wrapping: -super.looks(x) of the least int", () -> {
            acted(2, 1, MIN + 8, MIN);
            acted(2, 1, MIN + 9, MAX);
            acted(2, 1, 8, 0);
        });
        edge("28: ints, wrapping: super.tells(x) ^ 7", () -> {
            acted(3, 2, (1 << 30) + 8, MIN + 7);
            acted(3, 2, 7, -2 ^ 7);
        });
        edge("28: ints, wrapping: super.tells(x - 1) + strolls(2)", () -> {
            acted(4, 2, MIN, -15);
            acted(4, 2, 0, -15);
        });
        edge("28: ints, wrapping: super.strolls(x) ^ i", () -> {
            acted(5, 0, MAX, MIN + 1);
            acted(5, 0, -1, 1);
            acted(5, 0, 0, 0);
        });
        edge("28: ints, wrapping: super.looks(x) + v", () -> {
            acted(6, 1, MAX, MIN);
            acted(6, 1, MIN, MIN + 1);
        });
    }

    private static void traced(int kind, int act, int... bodies) {
        x = new RoadForMood();
        x.walker(kind, 0, 0, 0);
        x.act(0, act, 0);
        due("count(6), kind " + kind + " act " + act, x.count(6), bodies.length);
        for (int i = 0; i < bodies.length; i++) {
            due("trace(" + i + "), kind " + kind + " act " + act, x.trace(i), bodies[i]);
        }
        due("trace behind the last, kind " + kind + " act " + act, x.trace(bodies.length), -1);
    }

    private static void trace() {
        edge("29: NONE: no body ran yet", () -> {
            due("trace(0)", x.trace(0), -1);
            due("count(6)", x.count(6), 0);
        });
        edge("29: NONE: i below 0", () -> {
            refused("trace(-1)", -1, o -> o.trace(-1));
            refused("trace(MIN)", -1, o -> o.trace(MIN));
        });
        edge("29: NONE: i behind the last body", () -> {
            due("trace(6)", lively().trace(6), 1);
            refused("trace(7)", -1, o -> o.trace(7));
            refused("trace(19)", -1, o -> o.trace(19));
            refused("trace(20)", -1, o -> o.trace(20));
            refused("trace(MAX)", -1, o -> o.trace(MAX));
        });
        edge("29: of the latest act(): a shorter one leaves nothing of a longer one", () -> {
            x = lively();
            x.act(4, 0, 1);
            due("count(6)", x.count(6), 1);
            due("trace(0)", x.trace(0), 1);
            due("trace(1)", x.trace(1), -1);
        });
        edge("29: bodies as they began: of each KIND, or of the next KIND above that has one", () -> {
            int[][] strolls = {{1}, {11, 1}, {1}, {1}, {11, 1}, {51, 1}, {1}};
            int[][] looks = {{2, 1}, {2, 11, 1}, {21, 2, 1}, {2, 1}, {2, 11, 1}, {21, 2, 51, 1}, {61, 2, 1}};
            int[][] tells = {{3, 2, 1}, {3, 2, 11, 1}, {3, 21, 2, 1}, {31, 3, 2, 1}, {41, 3, 2, 11, 1, 11, 1},
                {3, 21, 2, 51, 1}, {31, 3, 61, 2, 1}};
            for (int kind = 0; kind < 7; kind++) {
                traced(kind, 0, strolls[kind]);
                traced(kind, 1, looks[kind]);
                traced(kind, 2, tells[kind]);
            }
        });
    }

    private static void as() {
        edge("30: a KIND, or one under that: its v, 0, too; else -6", () -> {
            String[] under = {"0", "01", "02", "03", "014", "025", "036"};
            for (int kind = 0; kind < 7; kind++) {
                for (int v = 0; v < 10; v += 9) {
                    x = new RoadForMood();
                    x.walker(kind, v, 0, 0);
                    for (int k = 0; k < 7; k++) {
                        boolean is = under[kind].indexOf('0' + k) >= 0;
                        due("as(0, " + k + ") of kind " + kind, x.as(0, k), is ? v : -6);
                    }
                }
            }
        });
        edge("30: NONE: no such WALKER", () -> {
            refused("as(-1, 0)", -1, o -> o.as(-1, 0));
            refused("as(5, 0)", -1, o -> o.as(5, 0));
            refused("as(MIN, 0)", -1, o -> o.as(MIN, 0));
            due("as(0, 0) of none", x.as(0, 0), -1);
        });
        edge("30: NONE: k below 0, above 6", () -> {
            refused("as(0, -1)", -1, o -> o.as(0, -1));
            refused("as(0, 7)", -1, o -> o.as(0, 7));
            refused("as(1, MAX)", -1, o -> o.as(1, MAX));
        });
        edge("30: -6 changes nothing", () -> refused("as(1, 2)", -6, o -> o.as(1, 2)));
    }

    private static void image() {
        edge("31: how many WALKERS there are: none, and six", () -> {
            due("image()", x.image(), 0);
            walkers(6);
            due("image()", x.image(), 6);
        });
        edge("31: the newer one is THE IMAGE", () -> {
            x.keep(1);
            x.image();
            x.keep(2);
            x.image();
            x.keep(3);
            due("undo()", x.undo(), 0);
            due("told(3)", x.told(3), 2);
        });
        edge("31: it changes nothing else", () -> {
            RoadForMood one = lively();
            due("image()", one.image(), 5);
            RoadForMood other = lively();
            for (int w = 0; w < 5; w++) {
                for (int what = 0; what < 10; what++) {
                    due("of(" + w + ", " + what + ")", one.of(w, what), other.of(w, what));
                }
                due("felt(" + w + ")", one.felt(w), other.felt(w));
            }
            for (int what = 0; what < 7; what++) {
                due("count(" + what + ")", one.count(what), other.count(what));
            }
            for (int what = 0; what < 14; what++) {
                due("told(" + what + ")", one.told(what), other.told(what));
            }
            due("trace(6)", one.trace(6), other.trace(6));
            due("done(0)", one.done(0), other.done(0));
            due("looked()", one.looked(), other.looked());
            due("park()", one.park(), other.park());
        });
        edge("31: what comes behind it does not come to it", () -> {
            walkers(1);
            x.image();
            x.set(0, 0, 9);
            x.pass(3);
            x.road(0, 7);
            due("undo()", x.undo(), 1);
            due("of(0, 2)", x.of(0, 2), 0);
            due("told(10)", x.told(10), 0);
        });
    }

    private static void undo() {
        edge("32: STATE: there is none", () -> {
            due("undo()", x.undo(), -3);
            walkers(2);
            x.keep(5);
            due("undo()", x.undo(), -3);
            due("count(0)", x.count(0), 2);
            due("told(3)", x.told(3), 5);
        });
        edge("32: how many WALKERS: none, and six", () -> {
            x.image();
            walkers(6);
            due("undo()", x.undo(), 0);
            due("count(0)", x.count(0), 0);
            due("of(0, 0)", x.of(0, 0), NOTHING);
            walkers(6);
            x.image();
            due("undo()", x.undo(), 6);
        });
        edge("Terms 2: THE IMAGE is none of all that is as THE IMAGE: undo() twice", () -> {
            walkers(1);
            x.image();
            for (int i = 0; i < 3; i++) {
                x.walker(0, 0, 0, 0);
                x.keep(4);
                due("undo()", x.undo(), 1);
                due("told(3)", x.told(3), 0);
            }
        });
        edge("Terms 2: undo() twice: what comes between does not come to THE IMAGE", () -> {
            x.walker(6, 1, 1, 1);
            x.image();
            x.undo();
            x.row(0, 0, 9);
            x.set(0, 0, 5);
            feed(x, "q");
            x.see(0, 0, true);
            x.undo();
            due("row(0, 0, 0)", x.row(0, 0, 0), 0);
            due("of(0, 2)", x.of(0, 2), 1);
            due("count(5)", x.count(5), 0);
            due("count(2)", x.count(2), 0);
        });
        edge("Terms 2: THE TRACE is none of THE IMAGE", () -> {
            walkers(1);
            x.act(0, 2, 0);
            x.image();
            x.act(0, 0, 0);
            x.undo();
            due("count(6)", x.count(6), 1);
            due("trace(0)", x.trace(0), 1);
            due("trace(1)", x.trace(1), -1);
        });
        edge("32: a WALKER that comes again is a new one", () -> {
            x.image();
            x.keep(ALL);
            x.walker(6, 1, 1, 1);
            x.row(0, 2, 9);
            x.away(0, false);
            x.pass(3);
            x.away(0, true);
            x.undo();
            due("walker", x.walker(6, 2, 3, 0), 0);
            due("row(0, 2, 0)", x.row(0, 2, 0), 0);
            due("of(0, 4)", x.of(0, 4), 0);
            due("of(0, 5)", x.of(0, 5), 0);
        });
        edge("32: a WALKER that comes again is stirred without a PARK, if THE IMAGE has none", () -> {
            x.image();
            park("stir 3 p=0");
            walkers(1);
            due("of(0, 8)", x.of(0, 8), 3);
            x.undo();
            walkers(1);
            due("of(0, 8) without a park", x.of(0, 8), 0);
            park("stir 4 k=0;stir 40 k=1");
            due("of(0, 8) of another park", x.of(0, 8), 4);
        });
        edge("32: a WALKER that comes again is stirred by its own KIND and v", () -> {
            int[][] pairs = {{0, 0, 1, 0}, {0, 0, 0, 9}, {0, 1, 1, 0}, {0, 8, 1, 0}, {0, 9, 1, 0}, {3, 9, 4, 0}, {3, 0, 6, 0}};
            park("stir 1 v=0;stir 2 v=1;stir 3 v=8;stir 4 v=9;stir 10 k=0;stir 20 k=1;stir 30 k=3;stir 40 k>3");
            int[] byV = {1, 2, 0, 0, 0, 0, 0, 0, 3, 4};
            int[] byKind = {10, 20, 0, 31, 40, 0, 41};
            x.image();
            for (int[] pair : pairs) {
                for (int i = 0; i < 4; i += 2) {
                    x.walker(pair[i], pair[i + 1], 0, 0);
                    due("kind " + pair[i] + ", v " + pair[i + 1], x.of(0, 8), byKind[pair[i]] + byV[pair[i + 1]]);
                    x.undo();
                }
            }
        });
        edge("32: a WALKER that comes again is stirred by the PARK that holds then", () -> {
            x.image();
            park("stir 5 k=1");
            x.walker(1, 0, 0, 0);
            due("of(0, 8)", x.of(0, 8), 5);
            x.undo();
            park("stir 7 k=0");
            x.walker(0, 0, 0, 0);
            due("of(0, 8) of a newer park", x.of(0, 8), 7);
            park("stir 9 k=0");
            due("of(0, 8) of the newest park", x.of(0, 8), 9);
        });
    }

    private static void undoFrees() {
        edge("32: what was full has room again: WALKERS", () -> {
            walkers(5);
            x.image();
            due("the sixth", x.walker(0, 0, 0, 0), 5);
            due("the seventh", x.walker(0, 0, 0, 0), -4);
            x.undo();
            due("the sixth again", x.walker(0, 0, 0, 0), 5);
            due("the seventh again", x.walker(0, 0, 0, 0), -4);
        });
        edge("32: what was full has room again: PARKS", () -> {
            for (int i = 0; i < 4; i++) {
                park("rain 1");
            }
            x.image();
            due("the fifth", park("rain 2"), 4);
            due("the sixth", park("rain 3"), -4);
            x.undo();
            due("told(1)", x.told(1), 1);
            due("the fifth again", park("rain 4"), 4);
            due("told(1)", x.told(1), 4);
            due("the sixth again", park("rain 5"), -4);
        });
        edge("32: what was full has room again: THE TAPE", () -> {
            feed(x, "a".repeat(99));
            x.image();
            due("the 100th", x.feed('a'), 100);
            due("the 101st", x.feed('a'), -4);
            x.undo();
            due("the 100th again", x.feed('a'), 100);
        });
        edge("32: what was full has room again: SEEN, PLAN, BOOK", () -> {
            walkers(1);
            for (int i = 0; i < 8; i++) {
                x.see(0, 0, true);
                x.plan(0, 0);
                x.book(0, 0);
                if (i == 4) {
                    x.image();
                }
            }
            due("see", x.see(0, 0, true), -4);
            due("plan", x.plan(0, 0), -4);
            due("book", x.book(0, 0), -4);
            x.undo();
            due("see", x.see(0, 0, true), 6);
            due("plan", x.plan(0, 0), 6);
            due("book", x.book(0, 0), 6);
        });
        edge("32: what was empty is so again, what was full, full", () -> {
            walkers(1);
            for (int i = 0; i < 8; i++) {
                x.see(0, 0, true);
                x.plan(0, 0);
                x.book(0, 0);
            }
            x.image();
            x.see(-1, 0, true);
            x.plan(-1, 0);
            x.book(-1, 0);
            x.undo();
            due("see", x.see(0, 0, true), -4);
            due("plan", x.plan(0, 0), -4);
            due("book", x.book(0, 0), -4);
        });
        edge("32: STEP has room again", () -> {
            x.pass(60);
            x.image();
            for (int i = 0; i < 165; i++) {
                x.pass(60);
            }
            due("pass(60)", x.pass(60), -3);
            x.undo();
            due("pass(60)", x.pass(60), 120);
        });
    }

    private static void undoIsWhole() {
        edge("32: all is as THE IMAGE, whatever came between", () -> {
            RoadForMood one = lively();
            one.image();
            for (int w = 0; w < 5; w++) {
                one.set(w, 0, 15 - w);
                one.set(w, 1, w % 4);
                one.away(w, w != 3);
            }
            one.row(0, 0, 1);
            one.row(0, 1, 2);
            one.row(0, 2, 3);
            one.row(0, 3, 4);
            one.walker(1, 1, 1, 1);
            one.pass(9);
            for (int mood = 0; mood < 4; mood++) {
                one.road(mood, 12345 + mood);
            }
            one.keep(ALL);
            one.park();
            feed(one, NINE);
            one.park();
            feed(one, "zz");
            one.see(-1, 0, true);
            one.plan(-1, 0);
            one.book(-1, 0);
            for (int i = 0; i < 4; i++) {
                one.see(5, 19, true);
                one.plan(3, 15);
                one.book(5, 3);
            }
            due("undo()", one.undo(), 5);
            RoadForMood other = lively();
            other.image();
            alike("undo()", one, other);
        });
        edge("32: undo() at once changes nothing", () -> {
            RoadForMood one = lively();
            one.image();
            due("undo()", one.undo(), 5);
            RoadForMood other = lively();
            other.image();
            alike("undo()", one, other);
        });
    }

    private static void count() {
        edge("33: NONE: what below 0, above 6", () -> {
            refused("count(-1)", -1, o -> o.count(-1));
            refused("count(7)", -1, o -> o.count(7));
            refused("count(MIN)", -1, o -> o.count(MIN));
            refused("count(MAX)", -1, o -> o.count(MAX));
        });
        edge("33: all at their most", () -> {
            walkers(5);
            x.walker(4, 0, 0, 0);
            for (int i = 0; i < 5; i++) {
                park("rain 1");
            }
            for (int i = 0; i < 9; i++) {
                x.see(0, 0, true);
                x.plan(0, 0);
                x.book(0, 0);
            }
            feed(x, "a".repeat(101));
            x.act(5, 2, 0);
            int[] most = {6, 5, 6, 8, 8, 100, 7};
            for (int what = 0; what < 7; what++) {
                due("count(" + what + ")", x.count(what), most[what]);
            }
        });
        edge("33: each counts its own", () -> {
            x.walker(0, 0, 0, 0);
            x.walker(4, 0, 0, 0);
            park("rain 1");
            for (int i = 0; i < 3; i++) {
                x.see(0, 0, true);
            }
            for (int i = 0; i < 4; i++) {
                x.plan(0, 0);
            }
            for (int i = 0; i < 5; i++) {
                x.book(0, 0);
            }
            feed(x, "abcdef");
            x.act(1, 2, 0);
            int[] want = {2, 1, 3, 4, 5, 6, 7};
            for (int what = 0; what < 7; what++) {
                due("count(" + what + ")", x.count(what), want[what]);
            }
        });
    }

    private static void constants() {
        edge("3: NONE, BAD, STATE, FULL", () -> {
            due("NONE", RoadForMood.NONE, -1);
            due("BAD", RoadForMood.BAD, -2);
            due("STATE", RoadForMood.STATE, -3);
            due("FULL", RoadForMood.FULL, -4);
        });
    }
}
