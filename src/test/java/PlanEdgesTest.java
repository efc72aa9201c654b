import java.util.function.Supplier;

/** The edges of promises 24 to 27: plans and books. */
public final class PlanEdgesTest extends Edges {
    public static void main(String[] args) {
        edges();
        end();
    }

    static void edges() {
        plan();
        emptied();
        done();
        book();
        looked();
    }

    private static RoadForMood planned() {
        RoadForMood o = lively();
        for (int i = 0; o.count(3) < 8 && i < 8; i++) {
            o.plan(i % 2 == 0 ? 0 : 3, i);
        }
        return o;
    }

    private static RoadForMood booked() {
        RoadForMood o = lively();
        for (int i = 0; o.count(4) < 8 && i < 8; i++) {
            o.book(i % 5, o.of(i % 5, 3));
        }
        return o;
    }

    private static void plan() {
        edge("24: how many there are: 8 at most", () -> {
            walkers(1);
            int[] whats = {0, 1, 2, 3, 0, 1, 2, 3};
            for (int i = 0; i < 8; i++) {
                due("plan, the row " + i, x.plan(whats[i], 0), i + 1);
                due("count(3)", x.count(3), i + 1);
            }
        });
        edge("24: FULL: 8", () -> {
            due("count(3)", planned().count(3), 8);
            refused("plan(0, 0)", -4, PlanEdgesTest::planned, o -> o.plan(0, 0));
            refused("plan(1, 0)", -4, PlanEdgesTest::planned, o -> o.plan(1, 0));
            refused("plan(2, 4)", -4, PlanEdgesTest::planned, o -> o.plan(2, 4));
            refused("plan(3, 15)", -4, PlanEdgesTest::planned, o -> o.plan(3, 15));
        });
        edge("24: by 0 the other is not looked at", () -> {
            due("plan(0, -1)", x.plan(0, -1), 1);
            due("plan(0, 16)", x.plan(0, 16), 2);
            due("plan(0, MIN)", x.plan(0, MIN), 3);
            due("plan(0, MAX)", x.plan(0, MAX), 4);
            walkers(1);
            x.keep(ALL);
            due("done(1)", x.done(1), 4);
        });
        edge("24: NONE: by 1 no such WALKER, though there be such a CELL", () -> {
            refused("plan(1, -1)", -1, o -> o.plan(1, -1));
            refused("plan(1, 5)", -1, o -> o.plan(1, 5));
            refused("plan(1, MAX)", -1, o -> o.plan(1, MAX));
            due("plan(1, 0) of none", x.plan(1, 0), -1);
        });
        edge("24: NONE: by 2 no such WALKER, though there be such a CELL", () -> {
            refused("plan(2, -1)", -1, o -> o.plan(2, -1));
            refused("plan(2, 5)", -1, o -> o.plan(2, 5));
            refused("plan(2, MIN)", -1, o -> o.plan(2, MIN));
            due("plan(2, 0) of none", x.plan(2, 0), -1);
        });
        edge("24: by 1, 2 the last WALKER of all", () -> {
            due("plan(1, 4)", lively().plan(1, 4), 4);
            due("plan(2, 4)", lively().plan(2, 4), 4);
        });
        edge("24: NONE: by 3 no such CELL", () -> {
            refused("plan(3, -1)", -1, o -> o.plan(3, -1));
            refused("plan(3, 16)", -1, o -> o.plan(3, 16));
            refused("plan(3, MIN)", -1, o -> o.plan(3, MIN));
            refused("plan(3, MAX)", -1, o -> o.plan(3, MAX));
        });
        edge("24: by 3 CELL 0 and CELL 15, though there be no such WALKER", () -> {
            due("plan(3, 0)", x.plan(3, 0), 1);
            due("plan(3, 15)", x.plan(3, 15), 2);
        });
        edge("24: NONE: what below -1, above 3", () -> {
            refused("plan(-2, 0)", -1, o -> o.plan(-2, 0));
            refused("plan(4, 0)", -1, o -> o.plan(4, 0));
            refused("plan(MIN, 0)", -1, o -> o.plan(MIN, 0));
            refused("plan(MAX, 0)", -1, o -> o.plan(MAX, 0));
        });
        edge("24: of NONE and FULL, NONE is told", () -> {
            refused("plan(4, 0)", -1, PlanEdgesTest::planned, o -> o.plan(4, 0));
            refused("plan(1, 5)", -1, PlanEdgesTest::planned, o -> o.plan(1, 5));
            refused("plan(2, -1)", -1, PlanEdgesTest::planned, o -> o.plan(2, -1));
            refused("plan(3, 16)", -1, PlanEdgesTest::planned, o -> o.plan(3, 16));
        });
    }

    private static void emptied() {
        edge("24: what -1: none then, whatever the other is", () -> {
            for (int n : new int[] {-1, 0, 16, MIN, MAX}) {
                x = lively();
                due("plan(-1, " + n + ")", x.plan(-1, n), 0);
                due("count(3)", x.count(3), 0);
                due("done(0)", x.done(0), x.told(4));
                due("done(1)", x.done(1), x.told(5));
            }
        });
        edge("24: what -1 of none, and of a full one", () -> {
            due("plan(-1, 0)", x.plan(-1, 0), 0);
            x = planned();
            due("plan(-1, 0) of eight", x.plan(-1, 0), 0);
            due("plan(0, 0)", x.plan(0, 0), 1);
        });
    }

    private static void done() {
        edge("25: of an empty PLAN: how all is now", () -> {
            x.keep(ALL);
            walkers(3);
            x.pass(2);
            x.away(2, true);
            due("done(0)", x.done(0), 2);
            due("done(1)", x.done(1), 6);
        });
        edge("25: of eight rows, all of them", () -> {
            x.keep(ALL);
            walkers(1);
            for (int i = 0; i < 8; i++) {
                x.plan(0, 0);
            }
            due("done(1)", x.done(1), 8);
        });
        edge("25: without WALKERS", () -> {
            x.plan(0, 0);
            x.plan(3, 15);
            due("done(0)", x.done(0), 0);
            due("done(1)", x.done(1), 0);
        });
        edge("25: row by row: what comes later does not count for a STEP before", () -> {
            x.keep(ALL);
            walkers(2);
            x.plan(0, 0);
            x.plan(1, 0);
            x.plan(0, 0);
            due("done(0)", x.done(0), 1);
            due("done(1)", x.done(1), 3);
            x.plan(2, 0);
            due("done(0), back", x.done(0), 2);
            x.plan(0, 0);
            due("done(1), back", x.done(1), 5);
        });
        edge("25: one AWAY already, one not AWAY already", () -> {
            walkers(2);
            x.away(0, true);
            x.plan(1, 0);
            x.plan(2, 1);
            due("done(0)", x.done(0), 1);
            due("of(0, 4)", x.of(0, 4), 1);
            due("of(1, 4)", x.of(1, 4), 0);
        });
        edge("25: the first and the last of six go AWAY", () -> {
            walkers(6);
            x.plan(1, 0);
            x.plan(1, 5);
            due("done(0)", x.done(0), 4);
            due("told(4)", x.told(4), 6);
        });
        edge("25: a KEEPER stands on CELL 0, 15, or does not any more, the other way", () -> {
            for (int cell = 0; cell < 16; cell += 15) {
                x = new RoadForMood();
                x.walker(0, 0, (cell + 15) % 16, 0);
                int keeper = cell;
                x.plan(3, keeper);
                x.plan(0, 0);
                due("done(1), one comes to " + cell, x.done(1), 1);
                x.keep(1 << keeper);
                due("done(1), one goes from " + cell, x.done(1), 0);
                x.plan(-1, 0);
                x.plan(3, keeper);
                x.plan(3, keeper);
                x.plan(0, 0);
                due("done(1), twice the other way on " + cell, x.done(1), 1);
                due("told(3)", x.told(3), 1 << keeper);
            }
        });
        edge("25: NONE: what below 0, above 1", () -> {
            refused("done(-1)", -1, o -> o.done(-1));
            refused("done(2)", -1, o -> o.done(2));
            refused("done(MIN)", -1, o -> o.done(MIN));
            refused("done(MAX)", -1, o -> o.done(MAX));
        });
    }

    private static void book() {
        edge("26: how many there are: 8 at most", () -> {
            walkers(1);
            for (int i = 1; i <= 8; i++) {
                due("book, the row " + i, x.book(0, i % 4), i);
                due("count(4)", x.count(4), i);
            }
        });
        edge("26: FULL: 8", () -> {
            due("count(4)", booked().count(4), 8);
            refused("book(0, 0)", -4, PlanEdgesTest::booked, o -> o.book(0, 0));
            refused("book(4, 3)", -4, PlanEdgesTest::booked, o -> o.book(4, 3));
        });
        edge("26: NONE: no such WALKER", () -> {
            refused("book(5, 0)", -1, o -> o.book(5, 0));
            refused("book(-2, 0)", -1, o -> o.book(-2, 0));
            refused("book(MIN, 0)", -1, o -> o.book(MIN, 0));
            refused("book(MAX, 0)", -1, o -> o.book(MAX, 0));
            due("book(0, 0) of none", x.book(0, 0), -1);
        });
        edge("26: NONE: no such MOOD", () -> {
            refused("book(0, -1)", -1, o -> o.book(0, -1));
            refused("book(0, 4)", -1, o -> o.book(0, 4));
            refused("book(4, MAX)", -1, o -> o.book(4, MAX));
        });
        edge("26: the last WALKER, MOOD 0 and MOOD 3", () -> {
            Supplier<RoadForMood> six = () -> with(lively(), o -> o.walker(0, 0, 0, 0));
            due("book(5, 0)", six.get().book(5, 0), 3);
            due("book(5, 3)", six.get().book(5, 3), 3);
        });
        edge("26: of NONE and FULL, NONE is told", () -> {
            refused("book(5, 0)", -1, PlanEdgesTest::booked, o -> o.book(5, 0));
            refused("book(0, 4)", -1, PlanEdgesTest::booked, o -> o.book(0, 4));
        });
        edge("26: WALKER -1: none then, whatever the other is", () -> {
            for (int mood : new int[] {-1, 0, 4, MIN, MAX}) {
                x = lively();
                due("looked()", x.looked(), 0);
                due("book(-1, " + mood + ")", x.book(-1, mood), 0);
                due("count(4)", x.count(4), 0);
                due("looked()", x.looked(), -5);
            }
        });
        edge("26: WALKER -1 of none, and of a full one", () -> {
            due("book(-1, 0)", x.book(-1, 0), 0);
            x = booked();
            due("book(-1, 0) of eight", x.book(-1, 0), 0);
            due("book(4, 3)", x.book(4, 3), 1);
        });
    }

    private static void looked() {
        edge("27: -5: none, where nothing is booked", () -> {
            due("looked()", x.looked(), -5);
            walkers(1);
            due("looked()", x.looked(), -5);
        });
        edge("27: -5: none, where eight are as booked", () -> {
            walkers(2);
            x.set(1, 1, 3);
            for (int i = 0; i < 8; i++) {
                x.book(i % 2, i % 2 * 3);
            }
            due("looked()", x.looked(), -5);
        });
        edge("27: the place from 0: the first row, the eighth", () -> {
            for (int odd = 0; odd < 8; odd++) {
                x = new RoadForMood();
                walkers(1);
                for (int i = 0; i < 8; i++) {
                    x.book(0, i == odd ? 1 : 0);
                }
                due("looked(), the row " + odd, x.looked(), odd);
            }
        });
        edge("27: the first of several", () -> {
            walkers(1);
            x.book(0, 0);
            x.book(0, 3);
            x.book(0, 0);
            x.book(0, 1);
            due("looked()", x.looked(), 1);
        });
        edge("27: by which it is otherwise now, of AWAY ones, too", () -> {
            walkers(1);
            x.book(0, 0);
            due("looked()", x.looked(), -5);
            x.set(0, 1, 2);
            x.away(0, true);
            due("looked()", x.looked(), 0);
            x.set(0, 1, 0);
            due("looked()", x.looked(), -5);
        });
    }
}
