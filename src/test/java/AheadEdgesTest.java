/** The edges of promises 13 to 17: what is asked of steps to come. */
public final class AheadEdgesTest extends Edges {
    public static void main(String[] args) {
        edges();
        end();
    }

    static void edges() {
        on();
        strays();
        meet();
        posts();
        gravel();
        beyond();
        nothingChanges();
    }

    private static void on() {
        edge("13: n 0: how all is now", () -> {
            x.walker(0, 0, 7, 2);
            due("on(0, 0)", x.on(0, 0), 1);
            due("on(0, 1)", x.on(0, 1), 0);
            due("on(0, 10)", x.on(0, 10), 7);
            due("on(0, 20)", x.on(0, 20), 2);
        });
        edge("13: n 60, the most", () -> {
            x.walker(3, 1, 0, 0);
            x.keep(ALL);
            due("on(60, 0)", x.on(60, 0), 1);
            due("on(60, 1)", x.on(60, 1), 60);
            due("on(60, 10)", x.on(60, 10), 12);
            due("on(59, 20)", x.on(59, 20), 3);
            due("on(60, 20)", x.on(60, 20), 0);
        });
        edge("13: BAD: n below 0", () -> {
            refused("on(-1, 0)", -2, o -> o.on(-1, 0));
            refused("on(MIN, 1)", -2, o -> o.on(MIN, 1));
            refused("on(-1, 10)", -2, o -> o.on(-1, 10));
            refused("on(-1, 24)", -2, o -> o.on(-1, 24));
        });
        edge("13: BAD: n above 60", () -> {
            refused("on(61, 0)", -2, o -> o.on(61, 0));
            refused("on(MAX, 1)", -2, o -> o.on(MAX, 1));
            refused("on(61, 14)", -2, o -> o.on(61, 14));
            refused("on(61, 20)", -2, o -> o.on(61, 20));
        });
        edge("13: NONE: what below 0, between 1 and 10", () -> {
            refused("on(0, -1)", -1, o -> o.on(0, -1));
            refused("on(0, MIN)", -1, o -> o.on(0, MIN));
            refused("on(0, 2)", -1, o -> o.on(0, 2));
            refused("on(0, 9)", -1, o -> o.on(0, 9));
        });
        edge("13: NONE: the CELL or the MOOD of no WALKER", () -> {
            refused("on(0, 15)", -1, o -> o.on(0, 15));
            refused("on(0, 19)", -1, o -> o.on(0, 19));
            refused("on(0, 25)", -1, o -> o.on(0, 25));
            refused("on(0, 30)", -1, o -> o.on(0, 30));
            refused("on(0, MAX)", -1, o -> o.on(0, MAX));
            due("on(0, 10) of none", x.on(0, 10), -1);
            due("on(0, 20) of none", x.on(0, 20), -1);
        });
        edge("13: of six WALKERS there are 10 .. 15 and 20 .. 25", () -> {
            for (int w = 0; w < 6; w++) {
                x.walker(0, 0, w + 3, 3 - w % 4);
            }
            for (int w = 0; w < 6; w++) {
                due("on(0, " + (10 + w) + ")", x.on(0, 10 + w), w + 3);
                due("on(0, " + (20 + w) + ")", x.on(0, 20 + w), 3 - w % 4);
            }
            due("on(0, 16)", x.on(0, 16), -1);
            due("on(0, 26)", x.on(0, 26), -1);
        });
        edge("13: of NONE and BAD, NONE is told", () -> {
            refused("on(61, 2)", -1, o -> o.on(61, 2));
            refused("on(-1, 15)", -1, o -> o.on(-1, 15));
            refused("on(61, 25)", -1, o -> o.on(61, 25));
        });
        edge("13: without WALKERS none is WRONG or MOVED", () -> {
            due("on(60, 0)", x.on(60, 0), 0);
            due("on(60, 1)", x.on(60, 1), 0);
        });
        edge("13: WRONG ones that are AWAY are not counted, MOVED ones are", () -> {
            x.keep(ALL);
            walkers(2);
            x.pass(2);
            x.away(0, true);
            due("on(0, 0)", x.on(0, 0), 1);
            due("on(3, 0)", x.on(3, 0), 1);
            due("on(0, 1)", x.on(0, 1), 4);
            due("on(3, 1)", x.on(3, 1), 7);
            due("on(3, 10) of the away one", x.on(3, 10), 2);
        });
    }

    /** A stout one on the road, till its mood changes at s where it is on CELL 14: behind 60 STEPS (s 9), or 61 (s 0). */
    private static void changesLate(int s) {
        due("a park", park("stir 1 s=" + s + "&c=14"), 0);
        x.walker(2, 0, 0, 0);
        x.road(0, ALL);
    }

    private static void strays() {
        edge("14: 0 STEPS, if it is WRONG now", () -> {
            walkers(1);
            due("strays(0)", x.strays(0), 0);
        });
        edge("14: the fewest STEPS", () -> {
            walkers(1);
            x.road(0, ALL & ~(1 << 5) & ~(1 << 9));
            due("strays(0)", x.strays(0), 5);
            x.set(0, 0, 6);
            due("strays(0) from 6", x.strays(0), 3);
            x.set(0, 0, 10);
            due("strays(0) from 10", x.strays(0), 11);
        });
        edge("14: 60 STEPS, the most", () -> {
            changesLate(9);
            due("strays(0)", x.strays(0), 60);
        });
        edge("14: -5: not by 60, though by 61", () -> {
            changesLate(0);
            due("strays(0)", x.strays(0), -5);
            x.pass(1);
            due("strays(0) one on", x.strays(0), 60);
        });
        edge("14: NONE: no such WALKER", () -> {
            refused("strays(-1)", -1, o -> o.strays(-1));
            refused("strays(5)", -1, o -> o.strays(5));
            refused("strays(MIN)", -1, o -> o.strays(MIN));
            refused("strays(MAX)", -1, o -> o.strays(MAX));
            due("strays(0) of none", x.strays(0), -1);
        });
        edge("14: an AWAY one is WRONG now or never", () -> {
            walkers(1);
            x.away(0, true);
            due("strays(0)", x.strays(0), 0);
            x.road(0, 1);
            due("strays(0) on its road", x.strays(0), -5);
        });
    }

    private static void meet() {
        edge("15: 0 STEPS, if both are there now", () -> {
            walkers(2);
            due("meet(0, 1)", x.meet(0, 1), 0);
            due("meet(1, 0)", x.meet(1, 0), 0);
        });
        edge("15: on one CELL alone is not enough, in one MOOD alone neither", () -> {
            x.walker(0, 0, 4, 1);
            x.walker(0, 0, 4, 2);
            x.walker(0, 0, 5, 1);
            due("meet(0, 1)", x.meet(0, 1), -5);
            due("meet(0, 2)", x.meet(0, 2), -5);
        });
        edge("15: 60 STEPS, the most", () -> {
            changesLate(9);
            x.walker(0, 0, 14, 2);
            x.away(1, true);
            due("meet(0, 1)", x.meet(0, 1), 60);
            due("meet(1, 0)", x.meet(1, 0), 60);
        });
        edge("15: -5: not by 60, though by 61", () -> {
            changesLate(0);
            x.walker(0, 0, 15, 2);
            x.away(1, true);
            due("meet(0, 1)", x.meet(0, 1), -5);
            x.pass(1);
            due("meet(0, 1) one on", x.meet(0, 1), 60);
        });
        edge("15: NONE: no such WALKER, one or the other", () -> {
            refused("meet(-1, 0)", -1, o -> o.meet(-1, 0));
            refused("meet(0, -1)", -1, o -> o.meet(0, -1));
            refused("meet(5, 0)", -1, o -> o.meet(5, 0));
            refused("meet(0, 5)", -1, o -> o.meet(0, 5));
            refused("meet(MIN, MAX)", -1, o -> o.meet(MIN, MAX));
            due("meet(0, 1) of none", x.meet(0, 1), -1);
        });
        edge("15: BAD: one is both", () -> {
            refused("meet(0, 0)", -2, o -> o.meet(0, 0));
            refused("meet(4, 4)", -2, o -> o.meet(4, 4));
        });
        edge("15: of NONE and BAD, NONE is told", () -> {
            refused("meet(5, 5)", -1, o -> o.meet(5, 5));
            refused("meet(-1, -1)", -1, o -> o.meet(-1, -1));
        });
        edge("15: AWAY ones are where they stay", () -> {
            walkers(2);
            x.away(0, true);
            x.away(1, true);
            due("meet(0, 1)", x.meet(0, 1), 0);
            x.set(1, 0, 15);
            due("meet(0, 1) apart", x.meet(0, 1), -5);
            x.away(1, false);
            due("meet(0, 1) when one comes", x.meet(0, 1), 1);
        });
    }

    private static void least(int n, int which, int howMuch) {
        due("posts(" + n + ", 0)", x.posts(n, 0), which);
        due("posts(" + n + ", 1)", x.posts(n, 1), howMuch);
    }

    private static void posts() {
        edge("16: n 0: the one set of none, whoever stands there", () -> {
            walkers(1);
            x.road(1, ALL);
            x.keep(ALL);
            least(0, 0, 12);
        });
        edge("16: n 1 .. 3, the most: CELL 0 may be of them", () -> {
            stillPark();
            for (int cell = 0; cell < 3; cell++) {
                still(cell, 0);
            }
            x.road(1, ALL);
            least(0, 0, 36);
            least(1, 0b1, 24);
            least(2, 0b11, 12);
            least(3, 0b111, 0);
        });
        edge("16: n 1 .. 3: CELL 15 may be of them, the last set of all", () -> {
            stillPark();
            for (int cell = 13; cell < 16; cell++) {
                still(cell, 0);
            }
            x.road(1, ALL);
            least(1, 1 << 13, 24);
            least(2, 0b11 << 13, 12);
            least(3, 0b111 << 13, 0);
            x.away(0, true);
            x.away(1, true);
            least(1, 1 << 15, 0);
            x.away(1, false);
            least(2, 0b11 << 14, 0);
        });
        edge("16: just n: sets of more or fewer do not count", () -> {
            stillPark();
            still(15, 0);
            x.road(1, ALL);
            least(1, 1 << 15, 0);
            least(2, 1 << 15 | 1, 0);
            least(3, 1 << 15 | 0b11, 0);
        });
        edge("16: of several the least as bits, where no set changes anything", () -> {
            least(0, 0, 0);
            least(1, 0b1, 0);
            least(2, 0b11, 0);
            least(3, 0b111, 0);
            walkers(1);
            least(1, 0b1, 12);
            least(2, 0b11, 12);
            least(3, 0b111, 12);
        });
        edge("16: of several the least as bits, not the one with the first CELL", () -> {
            stillPark();
            still(3, 0);
            still(9, 0);
            still(12, 0);
            x.road(1, ALL);
            least(1, 1 << 3, 24);
            least(2, 1 << 3 | 1 << 9, 12);
            least(3, 1 << 3 | 1 << 9 | 1 << 12, 0);
        });
        edge("16: TROUBLE is least: a set by which it is more is passed over", () -> {
            walkers(1);
            x.road(0, ALL & ~(1 << 1));
            least(1, 0b1, 1);
            least(3, 0b111, 1);
            x.road(2, 1 << 1);
            least(0, 0, 1);
            least(1, 0b1, 1);
            least(2, 0b110, 0);
            least(3, 0b111, 0);
        });
        edge("16: NONE: what below 0, above 1", () -> {
            refused("posts(0, -1)", -1, o -> o.posts(0, -1));
            refused("posts(0, 2)", -1, o -> o.posts(0, 2));
            refused("posts(3, MAX)", -1, o -> o.posts(3, MAX));
        });
        edge("16: BAD: n below 0, above 3", () -> {
            refused("posts(-1, 0)", -2, o -> o.posts(-1, 0));
            refused("posts(4, 0)", -2, o -> o.posts(4, 0));
            refused("posts(MIN, 1)", -2, o -> o.posts(MIN, 1));
            refused("posts(MAX, 1)", -2, o -> o.posts(MAX, 1));
        });
        edge("16: of NONE and BAD, NONE is told", () -> {
            refused("posts(4, 2)", -1, o -> o.posts(4, 2));
            refused("posts(-1, -1)", -1, o -> o.posts(-1, -1));
        });
    }

    private static void gravel() {
        edge("17: -5: none, without WALKERS", () -> due("gravel()", x.gravel(), -5));
        edge("17: -5: none, where there is no TROUBLE", () -> {
            walkers(1);
            x.road(0, ALL);
            due("gravel()", x.gravel(), -5);
            x.road(0, 0);
            x.away(0, true);
            due("gravel() of an away one", x.gravel(), -5);
        });
        edge("17: -5: none, where there is TROUBLE, but no gravel by which it is less", () -> {
            due("a park", park("stir 1 k=2&m=1;stir 1 k=0&m=2"), 0);
            x.walker(0, 0, 0, 1);
            x.walker(2, 0, 0, 2);
            x.road(1, ALL & ~(1 << 1));
            x.road(2, ALL & ~(1 << 1));
            x.keep(1 << 1);
            due("told(6)", x.told(6), 3);
            due("gravel()", x.gravel(), -5);
            x.keep(0);
            due("gravel() without the keeper", x.gravel(), 201);
        });
        edge("17: less by one, the last of it", () -> {
            walkers(1);
            x.road(0, ALL & ~(1 << 12));
            due("told(6)", x.told(6), 1);
            due("gravel()", x.gravel(), 12);
            x.road(0, ALL & ~(1 << 2) & ~(1 << 12));
            due("told(6)", x.told(6), 2);
            due("gravel()", x.gravel(), 2);
        });
        edge("17: the first of all: MOOD 0, CELL 0", () -> {
            stillPark();
            still(0, 0);
            due("gravel()", x.gravel(), 0);
        });
        edge("17: the last of all: MOOD 3, CELL 15", () -> {
            stillPark();
            still(15, 3);
            due("gravel()", x.gravel(), 315);
        });
        edge("17: CELL 15 of MOOD 0 is before CELL 0 of MOOD 1", () -> {
            stillPark();
            still(0, 1);
            due("gravel()", x.gravel(), 100);
            still(15, 0);
            due("gravel()", x.gravel(), 15);
        });
        edge("17: of several the first by these", () -> {
            stillPark();
            still(4, 2);
            still(3, 2);
            still(1, 3);
            due("gravel()", x.gravel(), 203);
            still(9, 1);
            due("gravel()", x.gravel(), 109);
        });
        edge("17: TROUBLE is least, by a later one, too", () -> {
            stillPark();
            still(2, 0);
            still(7, 3);
            still(7, 3);
            due("gravel()", x.gravel(), 307);
        });
        edge("17: the other way: gravel is taken up, where that is less", () -> {
            stillPark();
            x.walker(0, 0, 0, 0);
            x.road(0, 1 << 1);
            x.road(1, ALL);
            x.keep(1 << 1);
            due("gravel()", x.gravel(), 1);
            due("told(10)", x.told(10), 2);
        });
    }

    private static RoadForMood atTheEnd(Change made) {
        RoadForMood o = with(new RoadForMood(), made);
        for (int i = 0; i < 166; i++) {
            o.pass(60);
        }
        o.pass(39);
        return o;
    }

    private static void beyond() {
        edge("Terms 2: STEP goes beyond 9999, where it is only asked", () -> {
            x = atTheEnd(o -> {
                o.walker(2, 0, 0, 0);
                o.walker(0, 0, 15, 3);
                feed(o, "rain 4;stir 1 s=1&p=0");
                o.park();
                o.away(0, true);
                o.away(1, true);
            });
            due("told(0)", x.told(0), 9999);
            x.away(0, false);
            due("on(1, 10): odd, no step", x.on(1, 10), 0);
            due("on(2, 10): rain at 10000", x.on(2, 10), 0);
            due("on(3, 10): odd again", x.on(3, 10), 0);
            due("on(4, 10): 10002 is even", x.on(4, 10), 1);
            due("on(2, 20)", x.on(2, 20), 0);
            due("on(3, 20): s is 1 at 10001", x.on(3, 20), 2);
            x.road(0, ALL);
            due("strays(0)", x.strays(0), 3);
            x.set(1, 0, 1);
            x.set(1, 1, 2);
            due("meet(0, 1)", x.meet(0, 1), 4);
            x.plan(0, 0);
            x.plan(0, 0);
            x.plan(0, 0);
            due("done(0)", x.done(0), 1);
            due("told(6)", x.told(6), 10);
            due("pass(1)", x.pass(1), -3);
        });
        edge("Terms 2: MOVED goes beyond 9999, where it is only asked", () -> {
            x = atTheEnd(o -> {
                o.keep(ALL);
                o.walker(0, 0, 0, 0);
            });
            due("of(0, 5)", x.of(0, 5), 9999);
            due("on(1, 1)", x.on(1, 1), 10000);
            due("on(60, 1)", x.on(60, 1), 10059);
            due("mean(60, 0)", x.mean(60, 0), 60);
            due("mean(60, 1)", x.mean(60, 1), 1);
            x.plan(0, 0);
            due("done(1)", x.done(1), 10000);
            due("of(0, 5)", x.of(0, 5), 9999);
        });
    }

    private static void nothingChanges() {
        edge("Terms 2: what is asked changes nothing", () -> {
            asked("on(60, 0)", o -> o.on(60, 0));
            asked("on(60, 1)", o -> o.on(60, 1));
            asked("on(60, 10)", o -> o.on(60, 10));
            asked("on(60, 24)", o -> o.on(60, 24));
            asked("told(6)", o -> o.told(6));
            asked("strays(4)", o -> o.strays(4));
            asked("meet(0, 3)", o -> o.meet(0, 3));
            asked("posts(3, 0)", o -> o.posts(3, 0));
            asked("posts(3, 1)", o -> o.posts(3, 1));
            asked("gravel()", RoadForMood::gravel);
            asked("felt(4)", o -> o.felt(4));
            asked("where(4)", o -> o.where(4));
            asked("firm(0, 0)", o -> o.firm(0, 0));
            asked("odds(2, 60, 0)", o -> o.odds(2, 60, 0));
            asked("mean(60, 0)", o -> o.mean(60, 0));
            asked("done(0)", o -> o.done(0));
            asked("done(1)", o -> o.done(1));
            asked("looked()", RoadForMood::looked);
            asked("as(4, 0)", o -> o.as(4, 0));
            asked("trace(0)", o -> o.trace(0));
            asked("count(6)", o -> o.count(6));
        });
    }
}
