import java.util.function.Supplier;

/** The edges of promises 18 to 23: what is seen, and what follows from it; odds and means. */
public final class SeenEdgesTest extends Edges {
    public static void main(String[] args) {
        edges();
        end();
    }

    static void edges() {
        see();
        nothingSeen();
        felt();
        where();
        firm();
        odds();
        mean();
    }

    private static RoadForMood seen(int many) {
        RoadForMood o = lively();
        o.see(-1, 0, false);
        for (int i = 0; i < many; i++) {
            o.see(i % 5, 3 * i, i % 2 == 0);
        }
        return o;
    }

    private static void see() {
        edge("18: n 0: now", () -> {
            x.road(0, 1);
            walkers(1);
            due("see(0, 0, false)", x.see(0, 0, false), 1);
            due("where(0)", x.where(0), 1);
        });
        edge("18: n 20, the most", () -> {
            x.road(0, 1);
            walkers(1);
            due("see(0, 20, false)", x.see(0, 20, false), 1);
            due("where(0)", x.where(0), 1 << 12);
        });
        edge("18: BAD: n below 0, above 20", () -> {
            refused("see(0, -1, true)", -2, o -> o.see(0, -1, true));
            refused("see(0, 21, true)", -2, o -> o.see(0, 21, true));
            refused("see(4, MIN, false)", -2, o -> o.see(4, MIN, false));
            refused("see(4, MAX, false)", -2, o -> o.see(4, MAX, false));
        });
        edge("18: NONE: no such WALKER", () -> {
            refused("see(5, 0, true)", -1, o -> o.see(5, 0, true));
            refused("see(-2, 0, true)", -1, o -> o.see(-2, 0, true));
            refused("see(MIN, 0, true)", -1, o -> o.see(MIN, 0, true));
            refused("see(MAX, 0, true)", -1, o -> o.see(MAX, 0, true));
            due("see(0, 0, true) of none", x.see(0, 0, true), -1);
        });
        edge("18: how many there are: 6 at most", () -> {
            walkers(1);
            for (int i = 1; i <= 6; i++) {
                due("see, the row " + i, x.see(0, 0, true), i);
                due("count(2)", x.count(2), i);
            }
        });
        edge("18: FULL: 6", () -> {
            Supplier<RoadForMood> full = () -> seen(6);
            due("count(2)", full.get().count(2), 6);
            refused("see(0, 0, true)", -4, full, o -> o.see(0, 0, true));
            refused("see(4, 20, false)", -4, full, o -> o.see(4, 20, false));
        });
        edge("18: of NONE, BAD and FULL, NONE is told, then BAD", () -> {
            refused("see(5, 21, true)", -1, o -> o.see(5, 21, true));
            refused("see(5, 21, true) of six", -1, () -> seen(6), o -> o.see(5, 21, true));
            refused("see(5, 0, true) of six", -1, () -> seen(6), o -> o.see(5, 0, true));
            refused("see(0, 21, true) of six", -2, () -> seen(6), o -> o.see(0, 21, true));
        });
        edge("18: WALKER -1: none then, whatever the others are", () -> {
            int[] others = {-1, 0, 20, 21, MIN, MAX};
            for (int n : others) {
                x = seen(3);
                due("see(-1, " + n + ", true)", x.see(-1, n, true), 0);
                due("count(2)", x.count(2), 0);
                due("felt(0)", x.felt(0), 15);
            }
        });
        edge("18: WALKER -1 of none, of a full one, and without WALKERS", () -> {
            due("see(-1, 0, true)", x.see(-1, 0, true), 0);
            x = seen(6);
            due("see(-1, 0, true) of six", x.see(-1, 0, true), 0);
            due("see(0, 0, true)", x.see(0, 0, true), 1);
        });
        edge("Terms 2: from when it is asked, not from when it was told", () -> {
            x.road(0, 1 << 5);
            walkers(1);
            x.see(0, 2, false);
            due("where(0)", x.where(0), 1 << 3);
            x.pass(20);
            due("where(0) later", x.where(0), 1 << 3);
        });
    }

    private static void nothingSeen() {
        edge("19, 20, 21: where nothing is SEEN, all is so", () -> {
            walkers(1);
            due("felt(0)", x.felt(0), 15);
            due("where(0)", x.where(0), ALL);
            due("firm(0, 0)", x.firm(0, 0), 10);
            due("firm(0, 1)", x.firm(0, 1), 0);
        });
        edge("19, 20, 21: where it is SEEN otherwise, none is so", () -> {
            walkers(1);
            x.see(0, 0, true);
            x.see(0, 0, false);
            due("felt(0)", x.felt(0), 0);
            due("where(0)", x.where(0), 0);
            due("firm(0, 0)", x.firm(0, 0), 0);
            due("firm(0, 1)", x.firm(0, 1), -5);
        });
        edge("19, 20, 21: SEEN as WRONG, SEEN as not WRONG", () -> {
            walkers(1);
            x.road(0, 0b110);
            x.road(2, 0b001);
            park("stir 2 v=3");
            x.see(0, 0, true);
            due("felt(0)", x.felt(0), 0b1011);
            due("where(0)", x.where(0), ALL & ~0b110);
            x.see(-1, 0, true);
            x.see(0, 0, false);
            due("felt(0), not wrong", x.felt(0), 0b0100);
            due("where(0), not wrong", x.where(0), 0b110);
            x.see(-1, 0, true);
            x.see(0, 1, true);
            due("firm(0, 0)", x.firm(0, 0), 1);
            due("firm(0, 1)", x.firm(0, 1), 3);
            x.see(-1, 0, true);
            x.see(0, 1, false);
            due("firm(0, 0), not wrong", x.firm(0, 0), 9);
            due("firm(0, 1), not wrong", x.firm(0, 1), 0);
        });
        edge("19, 20, 21: all of SEEN is to be so: the first, and the sixth", () -> {
            for (int odd = 0; odd < 6; odd++) {
                x = new RoadForMood();
                walkers(1);
                for (int i = 0; i < 6; i++) {
                    x.see(0, 2, i != odd);
                }
                due("felt(0)", x.felt(0), 0);
                due("where(0)", x.where(0), 0);
                due("firm(0, 0)", x.firm(0, 0), 0);
            }
        });
        edge("19, 20, 21: of what is SEEN of others, too", () -> {
            walkers(2);
            x.see(1, 0, false);
            due("felt(0)", x.felt(0), 0);
            due("where(0)", x.where(0), 0);
            due("firm(0, 0)", x.firm(0, 0), 0);
        });
        edge("19, 20, 21: an AWAY one may be SEEN", () -> {
            x.road(2, 1 << 7);
            walkers(1);
            x.away(0, true);
            x.see(0, 20, false);
            due("felt(0)", x.felt(0), 0);
            x.set(0, 0, 7);
            due("felt(0) on CELL 7", x.felt(0), 0b100);
        });
    }

    private static void felt() {
        edge("19: MOODS as bits: 0 alone, 3 alone, all", () -> {
            walkers(1);
            x.see(0, 0, false);
            x.road(0, 1);
            due("felt(0)", x.felt(0), 0b1);
            x.road(0, 0);
            x.road(3, 1);
            due("felt(0)", x.felt(0), 0b1000);
            for (int mood = 0; mood < 3; mood++) {
                x.road(mood, 1);
            }
            due("felt(0)", x.felt(0), 0b1111);
        });
        edge("19: NONE: no such WALKER", () -> {
            refused("felt(-1)", -1, o -> o.felt(-1));
            refused("felt(5)", -1, o -> o.felt(5));
            refused("felt(MIN)", -1, o -> o.felt(MIN));
            refused("felt(MAX)", -1, o -> o.felt(MAX));
            due("felt(0) of none", x.felt(0), -1);
        });
    }

    private static void where() {
        edge("20: CELLS as bits: 0 alone, 15 alone", () -> {
            walkers(1);
            x.see(0, 0, false);
            x.road(0, 1);
            due("where(0)", x.where(0), 1);
            x.road(0, 1 << 15);
            due("where(0)", x.where(0), 1 << 15);
            x.see(-1, 0, false);
            x.see(0, 1, false);
            due("where(0), one STEP on", x.where(0), 1 << 14);
            x.road(0, 1);
            due("where(0), around the ring", x.where(0), 1 << 15);
        });
        edge("20: NONE: no such WALKER", () -> {
            refused("where(-1)", -1, o -> o.where(-1));
            refused("where(5)", -1, o -> o.where(5));
            refused("where(MIN)", -1, o -> o.where(MIN));
            refused("where(MAX)", -1, o -> o.where(MAX));
            due("where(0) of none", x.where(0), -1);
        });
    }

    private static void firmBy(String text, int many, int least) {
        x = new RoadForMood();
        walkers(1);
        x.road(1, ALL);
        due("park " + text, park(text), 0);
        x.see(0, 1, false);
        due("firm(0, 0) by " + text, x.firm(0, 0), many);
        due("firm(0, 1) by " + text, x.firm(0, 1), least);
    }

    private static void firm() {
        edge("21: v 0 .. 9: the least alone, the greatest alone, both", () -> {
            firmBy("stir 1 v=0", 1, 0);
            firmBy("stir 1 v=9", 1, 9);
            firmBy("stir 1 v=0|v=9", 2, 0);
            firmBy("stir 1 v>0", 9, 1);
            firmBy("stir 1 v<99", 10, 0);
        });
        edge("21: v 0 .. 9: none above 9; what 0 none: 0, what 1 none: -5", () -> firmBy("stir 1 v>9", 0, -5));
        edge("21: v of another one does not become another", () -> {
            walkers(2);
            x.road(1, ALL);
            park("stir 1 v=4");
            x.see(1, 1, false);
            due("firm(0, 0)", x.firm(0, 0), 0);
            due("firm(1, 1)", x.firm(1, 1), 4);
        });
        edge("21: NONE: no such WALKER", () -> {
            refused("firm(-1, 0)", -1, o -> o.firm(-1, 0));
            refused("firm(5, 0)", -1, o -> o.firm(5, 0));
            refused("firm(5, 1)", -1, o -> o.firm(5, 1));
            refused("firm(MAX, 1)", -1, o -> o.firm(MAX, 1));
            due("firm(0, 0) of none", x.firm(0, 0), -1);
        });
        edge("21: NONE: what below 0, above 1", () -> {
            refused("firm(0, -1)", -1, o -> o.firm(0, -1));
            refused("firm(0, 2)", -1, o -> o.firm(0, 2));
            refused("firm(0, MIN)", -1, o -> o.firm(0, MIN));
        });
    }

    private static void oddsAre(int n, int above, int below) {
        due("odds(0, " + n + ", 0)", x.odds(0, n, 0), above);
        due("odds(0, " + n + ", 1)", x.odds(0, n, 1), below);
    }

    private static void odds() {
        edge("22: in lowest terms: 0, 1/4, 1/2, 3/4, 1", () -> {
            walkers(1);
            oddsAre(0, 1, 1);
            x.road(3, 1);
            oddsAre(0, 3, 4);
            x.road(1, 1);
            oddsAre(0, 1, 2);
            x.road(0, 1);
            oddsAre(0, 1, 4);
            x.road(2, 1);
            oddsAre(0, 0, 1);
        });
        edge("22: n 0, and 60, the most", () -> {
            walkers(1);
            x.road(2, 1 << 12);
            oddsAre(0, 1, 1);
            oddsAre(59, 1, 1);
            oddsAre(60, 3, 4);
        });
        edge("22: if it is in any of MOODS: whichever it is in now", () -> {
            for (int mood = 0; mood < 4; mood++) {
                x = new RoadForMood();
                x.walker(0, 0, 0, mood);
                x.road(2, ALL);
                oddsAre(7, 3, 4);
            }
        });
        edge("22: NO: no such WALKER", () -> {
            refused("odds(-1, 0, 0)", NO, o -> o.odds(-1, 0, 0));
            refused("odds(5, 0, 0)", NO, o -> o.odds(5, 0, 0));
            refused("odds(5, 60, 1)", NO, o -> o.odds(5, 60, 1));
            refused("odds(MAX, 0, 1)", NO, o -> o.odds(MAX, 0, 1));
            due("odds(0, 0, 1) of none", x.odds(0, 0, 1), NO);
        });
        edge("22: NO: n below 0, above 60", () -> {
            refused("odds(0, -1, 0)", NO, o -> o.odds(0, -1, 0));
            refused("odds(0, 61, 0)", NO, o -> o.odds(0, 61, 0));
            refused("odds(0, MIN, 1)", NO, o -> o.odds(0, MIN, 1));
            refused("odds(0, MAX, 1)", NO, o -> o.odds(0, MAX, 1));
        });
        edge("22: NO: part below 0, above 1", () -> {
            refused("odds(0, 0, -1)", NO, o -> o.odds(0, 0, -1));
            refused("odds(0, 0, 2)", NO, o -> o.odds(0, 0, 2));
            refused("odds(0, 60, MAX)", NO, o -> o.odds(0, 60, MAX));
        });
        edge("22: NO is the least of all longs", () -> due("NO", RoadForMood.NO, NO));
    }

    private static void meanIs(int n, int above, int below) {
        due("mean(" + n + ", 0)", x.mean(n, 0), above);
        due("mean(" + n + ", 1)", x.mean(n, 1), below);
    }

    private static void mean() {
        edge("23: n 0: none is MOVED: 0/1", () -> {
            x.keep(ALL);
            walkers(4);
            meanIs(0, 0, 1);
        });
        edge("23: n 60, the most", () -> {
            x.keep(ALL);
            walkers(1);
            meanIs(60, 60, 1);
        });
        edge("23: in lowest terms", () -> {
            x.keep(1 << 1 | 1 << 2 | 1 << 3 | 1 << 4);
            walkers(1);
            for (int i = 1; i < 6; i++) {
                x.walker(3, 0, 8, 0);
            }
            meanIs(1, 1, 6);
            meanIs(2, 1, 3);
            meanIs(3, 1, 2);
            meanIs(4, 2, 3);
            meanIs(5, 2, 3);
            meanIs(17, 5, 6);
            meanIs(18, 1, 1);
            meanIs(19, 7, 6);
        });
        edge("23: more than now, not MOVED ahead of it", () -> {
            x.keep(ALL);
            walkers(2);
            x.pass(5);
            meanIs(0, 0, 1);
            meanIs(3, 3, 1);
        });
        edge("23: by how many they are, AWAY ones, too", () -> {
            x.keep(ALL);
            walkers(3);
            x.away(0, true);
            meanIs(1, 2, 3);
            x.away(1, true);
            x.away(2, true);
            meanIs(1, 0, 1);
        });
        edge("23: NO: no WALKERS", () -> {
            due("mean(0, 0)", x.mean(0, 0), NO);
            due("mean(60, 1)", x.mean(60, 1), NO);
        });
        edge("23: NO: n below 0, above 60", () -> {
            refused("mean(-1, 0)", NO, o -> o.mean(-1, 0));
            refused("mean(61, 0)", NO, o -> o.mean(61, 0));
            refused("mean(MIN, 1)", NO, o -> o.mean(MIN, 1));
            refused("mean(MAX, 1)", NO, o -> o.mean(MAX, 1));
        });
        edge("23: NO: part below 0, above 1", () -> {
            refused("mean(0, -1)", NO, o -> o.mean(0, -1));
            refused("mean(0, 2)", NO, o -> o.mean(0, 2));
            refused("mean(60, MIN)", NO, o -> o.mean(60, MIN));
        });
    }
}
