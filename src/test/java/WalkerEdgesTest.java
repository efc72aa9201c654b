import java.util.function.Supplier;

/** The edges of promises 4 to 12: roads, keepers, walkers, and steps that go. */
public final class WalkerEdgesTest extends Edges {
    public static void main(String[] args) {
        edges();
        end();
    }

    static void edges() {
        roads();
        keepers();
        walkersCome();
        ofOne();
        company();
        sways();
        paces();
        rows();
        sets();
        away();
        told();
        figure();
        passes();
        lastStep();
        aroundTheRing();
        moods();
        allAtOnce();
        handedOver();
    }

    private static void roads() {
        edge("4: CELLS are bits, 0 .. 65535: none, and all", () -> {
            due("road(0, 65535)", x.road(0, ALL), 0);
            due("told(10)", x.told(10), ALL);
            due("road(0, 0)", x.road(0, 0), ALL);
            due("told(10)", x.told(10), 0);
        });
        edge("4: the lowest bit is CELL 0, the highest CELL 15", () -> {
            x.walker(0, 0, 0, 0);
            x.walker(0, 0, 15, 0);
            x.road(0, 1);
            due("of(0, 6)", x.of(0, 6), 0);
            due("of(1, 6)", x.of(1, 6), 1);
            x.road(0, 1 << 15);
            due("of(0, 6)", x.of(0, 6), 1);
            due("of(1, 6)", x.of(1, 6), 0);
        });
        edge("4: of MOODS 0 and 3, what it was", () -> {
            due("road(0, 5)", x.road(0, 5), 0);
            due("road(3, 9)", x.road(3, 9), 0);
            due("road(3, 7)", x.road(3, 7), 9);
            due("road(0, 6)", x.road(0, 6), 5);
            due("told(11)", x.told(11), 0);
            due("told(12)", x.told(12), 0);
        });
        edge("4: NONE: a MOOD below 0", () -> {
            refused("road(-1, 0)", -1, o -> o.road(-1, 0));
            refused("road(MIN, 0)", -1, o -> o.road(MIN, 0));
        });
        edge("4: NONE: a MOOD above 3", () -> {
            refused("road(4, 0)", -1, o -> o.road(4, 0));
            refused("road(MAX, 0)", -1, o -> o.road(MAX, 0));
        });
        edge("4: BAD: CELLS below 0", () -> {
            refused("road(0, -1)", -2, o -> o.road(0, -1));
            refused("road(3, MIN)", -2, o -> o.road(3, MIN));
        });
        edge("4: BAD: CELLS above 65535", () -> {
            refused("road(0, 65536)", -2, o -> o.road(0, 65536));
            refused("road(3, MAX)", -2, o -> o.road(3, MAX));
        });
        edge("4: of NONE and BAD, NONE is told", () -> {
            refused("road(4, 65536)", -1, o -> o.road(4, 65536));
            refused("road(-1, -1)", -1, o -> o.road(-1, -1));
        });
    }

    private static void keepers() {
        edge("5: CELLS are bits, 0 .. 65535: none, and all", () -> {
            due("keep(65535)", x.keep(ALL), 0);
            due("told(3)", x.told(3), ALL);
            due("keep(0)", x.keep(0), ALL);
            due("told(3)", x.told(3), 0);
        });
        edge("5: the lowest bit is CELL 0, the highest CELL 15", () -> {
            x.walker(0, 0, 14, 0);
            x.walker(0, 0, 15, 0);
            x.keep(1 << 15);
            x.pass(1);
            due("of(0, 5)", x.of(0, 5), 1);
            due("of(1, 5)", x.of(1, 5), 0);
            x.keep(1);
            x.pass(1);
            due("of(0, 5)", x.of(0, 5), 2);
            due("of(1, 5)", x.of(1, 5), 0);
        });
        edge("5: BAD: CELLS below 0", () -> {
            refused("keep(-1)", -2, o -> o.keep(-1));
            refused("keep(MIN)", -2, o -> o.keep(MIN));
        });
        edge("5: BAD: CELLS above 65535", () -> {
            refused("keep(65536)", -2, o -> o.keep(65536));
            refused("keep(MAX)", -2, o -> o.keep(MAX));
        });
    }

    private static void walkersCome() {
        edge("6: the least of all: KIND 0, v 0, CELL 0, MOOD 0", () -> {
            due("walker(0, 0, 0, 0)", x.walker(0, 0, 0, 0), 0);
            for (int what = 0; what < 4; what++) {
                due("of(0, " + what + ")", x.of(0, what), 0);
            }
        });
        edge("6: the greatest of all: KIND 6, v 9, CELL 15, MOOD 3", () -> {
            due("walker(6, 9, 15, 3)", x.walker(6, 9, 15, 3), 0);
            int[] want = {6, 9, 15, 3};
            for (int what = 0; what < 4; what++) {
                due("of(0, " + what + ")", x.of(0, what), want[what]);
            }
        });
        edge("6: numbered from 0 on", () -> {
            for (int i = 0; i < 6; i++) {
                due("walker", x.walker(i, i, i, 0), i);
                due("count(0)", x.count(0), i + 1);
            }
        });
        edge("6: FULL: 6", () -> {
            Supplier<RoadForMood> full = () -> with(lively(), o -> o.walker(1, 1, 1, 1));
            due("count(0)", full.get().count(0), 6);
            refused("walker(0, 0, 0, 0)", -4, full, o -> o.walker(0, 0, 0, 0));
            refused("walker(6, 9, 15, 3)", -4, full, o -> o.walker(6, 9, 15, 3));
        });
        edge("6: NONE: a KIND below 0, above 6", () -> {
            refused("walker(-1, ..)", -1, o -> o.walker(-1, 0, 0, 0));
            refused("walker(7, ..)", -1, o -> o.walker(7, 0, 0, 0));
            refused("walker(MAX, ..)", -1, o -> o.walker(MAX, 0, 0, 0));
        });
        edge("6: NONE: a CELL below 0, above 15", () -> {
            refused("walker(0, 0, -1, 0)", -1, o -> o.walker(0, 0, -1, 0));
            refused("walker(0, 0, 16, 0)", -1, o -> o.walker(0, 0, 16, 0));
            refused("walker(0, 0, MIN, 0)", -1, o -> o.walker(0, 0, MIN, 0));
        });
        edge("6: NONE: a MOOD below 0, above 3", () -> {
            refused("walker(0, 0, 0, -1)", -1, o -> o.walker(0, 0, 0, -1));
            refused("walker(0, 0, 0, 4)", -1, o -> o.walker(0, 0, 0, 4));
        });
        edge("6: BAD: v below 0, above 9", () -> {
            refused("walker(0, -1, 0, 0)", -2, o -> o.walker(0, -1, 0, 0));
            refused("walker(0, 10, 0, 0)", -2, o -> o.walker(0, 10, 0, 0));
            refused("walker(0, MIN, 0, 0)", -2, o -> o.walker(0, MIN, 0, 0));
        });
        edge("6: of NONE, BAD and FULL, NONE is told, then BAD", () -> {
            refused("a KIND and a v", -1, o -> o.walker(7, 10, 0, 0));
            refused("a CELL and a v", -1, o -> o.walker(0, 10, 16, 0));
            refused("a MOOD and a v", -1, o -> o.walker(0, -1, 0, 4));
            Supplier<RoadForMood> full = () -> with(lively(), o -> o.walker(1, 1, 1, 1));
            refused("a KIND of a seventh", -1, full, o -> o.walker(7, 0, 0, 0));
            refused("a CELL of a seventh", -1, full, o -> o.walker(0, 0, 16, 0));
            refused("a MOOD of a seventh", -1, full, o -> o.walker(0, 0, 0, -1));
            refused("a v of a seventh", -2, full, o -> o.walker(0, 10, 0, 0));
        });
        edge("Terms 1: not AWAY, MOVED 0, a ROW of 0 at first", () -> {
            x.keep(ALL);
            still(0, 0);
            x.pass(3);
            x.walker(6, 0, 0, 0);
            due("of(1, 4)", x.of(1, 4), 0);
            due("of(1, 5)", x.of(1, 5), 0);
            for (int k = 0; k < 4; k++) {
                due("row(1, " + k + ", 0)", x.row(1, k, 0), 0);
            }
        });
    }

    private static void ofOne() {
        edge("7: -999999: no such WALKER", () -> {
            for (int what = 0; what < 10; what++) {
                int asked = what;
                refused("of(-1, " + what + ")", NOTHING, o -> o.of(-1, asked));
                refused("of(5, " + what + ")", NOTHING, o -> o.of(5, asked));
            }
            refused("of(MIN, 0)", NOTHING, o -> o.of(MIN, 0));
            refused("of(MAX, 0)", NOTHING, o -> o.of(MAX, 0));
        });
        edge("7: -999999: no such what", () -> {
            refused("of(0, -1)", NOTHING, o -> o.of(0, -1));
            refused("of(0, 10)", NOTHING, o -> o.of(0, 10));
            refused("of(0, MIN)", NOTHING, o -> o.of(0, MIN));
            refused("of(0, MAX)", NOTHING, o -> o.of(0, MAX));
        });
        edge("7: of a new object: -999999", () -> due("of(0, 0)", x.of(0, 0), NOTHING));
        edge("7: the first and the last of six", () -> {
            for (int i = 0; i < 6; i++) {
                x.walker(i, 9 - i, 15 - i, i % 4);
            }
            due("of(0, 0)", x.of(0, 0), 0);
            due("of(0, 1)", x.of(0, 1), 9);
            due("of(5, 0)", x.of(5, 0), 5);
            due("of(5, 2)", x.of(5, 2), 10);
            due("of(6, 0)", x.of(6, 0), NOTHING);
        });
        edge("7: SWAY may be below 0, and is no refusal", () -> {
            walkers(1);
            park("calm 1 p=0");
            due("of(0, 8)", x.of(0, 8), -1);
            park("calm 2 p=0");
            due("of(0, 8)", x.of(0, 8), -2);
        });
    }

    private static void company() {
        edge("Terms 1: one alone has no COMPANY: it is not another one", () -> {
            walkers(1);
            due("of(0, 7)", x.of(0, 7), 0);
        });
        edge("Terms 1: COMPANY is on its CELL, not beside it, in any MOOD", () -> {
            x.walker(0, 0, 0, 0);
            x.walker(0, 0, 1, 0);
            x.walker(0, 0, 15, 0);
            x.walker(0, 0, 8, 1);
            x.walker(2, 0, 8, 3);
            int[] want = {0, 0, 0, 1, 1};
            for (int w = 0; w < 5; w++) {
                due("of(" + w + ", 7)", x.of(w, 7), want[w]);
            }
        });
        edge("Terms 1: COMPANY is any other one, not the next one alone", () -> {
            x.walker(0, 0, 8, 0);
            x.walker(0, 0, 1, 0);
            x.walker(0, 0, 8, 0);
            x.walker(0, 0, 2, 0);
            x.walker(0, 0, 1, 0);
            int[] want = {1, 1, 1, 0, 1};
            for (int w = 0; w < 5; w++) {
                due("of(" + w + ", 7)", x.of(w, 7), want[w]);
            }
            x.away(0, true);
            due("of(0, 7), away", x.of(0, 7), 1);
            due("of(2, 7)", x.of(2, 7), 0);
        });
        edge("Terms 1: one AWAY is no COMPANY", () -> {
            walkers(2);
            x.away(1, true);
            due("of(0, 7)", x.of(0, 7), 0);
        });
        edge("Terms 1: one has COMPANY, though it be AWAY", () -> {
            walkers(2);
            x.away(1, true);
            due("of(1, 7)", x.of(1, 7), 1);
        });
        edge("Terms 1: two AWAY are no COMPANY to one another", () -> {
            walkers(2);
            x.away(0, true);
            x.away(1, true);
            due("of(0, 7)", x.of(0, 7), 0);
            due("of(1, 7)", x.of(1, 7), 0);
        });
        edge("Terms 1: of three, one of them AWAY, all have COMPANY", () -> {
            walkers(3);
            x.away(1, true);
            for (int w = 0; w < 3; w++) {
                due("of(" + w + ", 7)", x.of(w, 7), 1);
            }
        });
    }

    private static void swayOf(int kind, int want, String text) {
        x = new RoadForMood();
        x.walker(kind, 0, 3, 2);
        if (!text.isEmpty()) {
            park(text);
        }
        due("sway of kind " + kind + " by " + text, x.of(0, 8), want);
    }

    private static void sways() {
        int[] without = {0, 0, 0, 1, 0, 0, 1};
        int[] calm = {-7, -7, -14, -6, -7, -14, -6};
        edge("Terms 1: SWAY where SUM is 0, of each KIND", () -> {
            for (int kind = 0; kind < 7; kind++) {
                swayOf(kind, without[kind], "");
            }
        });
        edge("Terms 1: SWAY may be below 0, of each KIND", () -> {
            for (int kind = 0; kind < 7; kind++) {
                swayOf(kind, calm[kind], "calm 7 p=0");
            }
        });
        edge("Terms 1: LOVER: 0, if it has COMPANY", () -> {
            swayOf(1, 7, "stir 7 p=0");
            x.walker(0, 0, 3, 0);
            due("of(0, 8)", x.of(0, 8), 0);
            x.away(1, true);
            due("of(0, 8) by one away", x.of(0, 8), 7);
        });
        edge("Terms 1: SHY: 2, if it has COMPANY", () -> {
            swayOf(4, 7, "stir 7 p=0");
            x.walker(0, 0, 3, 0);
            due("of(0, 8)", x.of(0, 8), 2);
            x.away(1, true);
            due("of(0, 8) by one away", x.of(0, 8), 7);
        });
        edge("Terms 1: PROUD: 0, if it is not WRONG", () -> {
            swayOf(5, 14, "stir 7 p=0");
            x.road(2, 1 << 3);
            due("of(0, 8)", x.of(0, 8), 0);
            x.set(0, 0, 4);
            due("of(0, 8) beside its road", x.of(0, 8), 14);
        });
        edge("Terms 1: of an AWAY one SWAY and PACE are told as of another", () -> {
            swayOf(3, 8, "stir 7 p=0");
            x.walker(0, 0, 1, 1);
            x.away(0, true);
            x.away(1, true);
            due("of(0, 8)", x.of(0, 8), 8);
            due("of(0, 9)", x.of(0, 9), 0);
            due("of(1, 9)", x.of(1, 9), 1);
        });
    }

    private static void paces() {
        edge("Terms 1: PACE: 0, if it RAINS, of each KIND", () -> {
            park("rain 2");
            for (int kind = 0; kind < 6; kind++) {
                x.walker(kind, 2, kind, 0);
            }
            for (int w = 0; w < 6; w++) {
                due("of(" + w + ", 9)", x.of(w, 9), 0);
            }
            x.set(1, 0, 4);
            due("of a shy one in company", x.of(4, 9), 0);
            x = new RoadForMood();
            park("rain 2");
            x.walker(6, 2, 0, 0);
            due("of a told one", x.of(0, 9), 0);
            x.pass(1);
            due("where it does not rain", x.of(0, 9), 2);
        });
        edge("Terms 1: PACE of STOUT: 1, if STEP is even, 0, too; else 0", () -> {
            x.walker(2, 0, 0, 0);
            for (int step = 0; step < 4; step++) {
                due("of(0, 9) at " + step, x.of(0, 9), step % 2 == 0 ? 1 : 0);
                x.pass(1);
            }
        });
        edge("Terms 1: PACE of PROUD: as STOUT, and 1", () -> {
            x.walker(5, 0, 0, 0);
            for (int step = 0; step < 4; step++) {
                due("of(0, 9) at " + step, x.of(0, 9), step % 2 == 0 ? 2 : 1);
                x.pass(1);
            }
        });
        edge("Terms 1: PACE of DRUNK, TOLD: v modulo 3, from 0 to 9", () -> {
            int[] want = {0, 1, 2, 0, 1, 2, 0, 1, 2, 0};
            for (int v = 0; v < 10; v++) {
                x = new RoadForMood();
                x.walker(3, v, 0, 0);
                x.walker(6, v, 0, 0);
                due("of a drunk one of " + v, x.of(0, 9), want[v]);
                due("of a told one of " + v, x.of(1, 9), want[v]);
            }
        });
        edge("Terms 1: PACE of SHY: 15, if it has COMPANY", () -> {
            x.walker(4, 0, 5, 0);
            due("of(0, 9)", x.of(0, 9), 1);
            x.walker(0, 0, 5, 0);
            due("of(0, 9) in company", x.of(0, 9), 15);
            x.away(1, true);
            due("of(0, 9) by one away", x.of(0, 9), 1);
        });
    }

    private static void rows() {
        edge("8: n 0 .. 9, k 0 .. 3: what it was", () -> {
            x.walker(6, 0, 0, 0);
            for (int k = 0; k < 4; k++) {
                due("row(0, " + k + ", 9)", x.row(0, k, 9), 0);
            }
            for (int k = 0; k < 4; k++) {
                due("row(0, " + k + ", 0)", x.row(0, k, 0), 9);
                due("row(0, " + k + ", k)", x.row(0, k, k), 0);
            }
            due("row(0, 0, 0)", x.row(0, 0, 0), 0);
            due("row(0, 3, 0)", x.row(0, 3, 0), 3);
        });
        edge("8: for STEPS modulo 4 being k: behind 3 comes 0", () -> {
            x.walker(6, 0, 0, 0);
            for (int k = 0; k < 4; k++) {
                x.row(0, k, 5 + k);
            }
            for (int step = 0; step < 9; step++) {
                due("of(0, 8) at " + step, x.of(0, 8), 6 + step % 4);
                x.pass(1);
            }
        });
        edge("8: NONE: no such WALKER", () -> {
            refused("row(-1, 0, 0)", -1, o -> o.row(-1, 0, 0));
            refused("row(5, 0, 0)", -1, o -> o.row(5, 0, 0));
            refused("row(MAX, 0, 0)", -1, o -> o.row(MAX, 0, 0));
            due("row(0, 0, 0) of none", x.row(0, 0, 0), -1);
        });
        edge("8: NONE: k below 0, above 3", () -> {
            refused("row(0, -1, 5)", -1, o -> o.row(0, -1, 5));
            refused("row(0, 4, 5)", -1, o -> o.row(0, 4, 5));
            refused("row(0, MAX, 5)", -1, o -> o.row(0, MAX, 5));
        });
        edge("8: BAD: n below 0, above 9", () -> {
            refused("row(0, 0, -1)", -2, o -> o.row(0, 0, -1));
            refused("row(0, 3, 10)", -2, o -> o.row(0, 3, 10));
        });
        edge("8: STATE: another KIND, the one above TOLD, too", () -> {
            for (int w = 1; w < 5; w++) {
                int asked = w;
                refused("row(" + w + ", 0, 5)", -3, o -> o.row(asked, 0, 5));
            }
            x.walker(2, 0, 0, 0);
            x.walker(1, 0, 0, 0);
            due("of a stout one", x.row(0, 0, 1), -3);
            due("of a lover", x.row(1, 0, 1), -3);
        });
        edge("8: of NONE, BAD and STATE, NONE is told, then BAD", () -> {
            refused("no walker, no k, a bad n", -1, o -> o.row(5, 4, 10));
            refused("no k, a bad n", -1, o -> o.row(0, 4, 10));
            refused("no k of another kind", -1, o -> o.row(1, -1, 0));
            refused("a bad n of another kind", -2, o -> o.row(1, 0, 10));
        });
        edge("8: each one has a ROW of its own", () -> {
            x.walker(6, 0, 0, 0);
            x.walker(6, 0, 0, 0);
            x.row(0, 3, 9);
            due("row(1, 0, 0)", x.row(1, 0, 0), 0);
            x.row(1, 0, 4);
            due("row(0, 3, 9)", x.row(0, 3, 9), 9);
            due("row(0, 0, 0)", x.row(0, 0, 0), 0);
        });
    }

    private static void sets() {
        edge("9: CELL 0 .. 15, what it was", () -> {
            walkers(1);
            due("set(0, 0, 15)", x.set(0, 0, 15), 0);
            due("set(0, 0, 0)", x.set(0, 0, 0), 15);
            due("of(0, 2)", x.of(0, 2), 0);
        });
        edge("9: MOOD 0 .. 3, what it was", () -> {
            walkers(1);
            due("set(0, 1, 3)", x.set(0, 1, 3), 0);
            due("set(0, 1, 0)", x.set(0, 1, 0), 3);
            due("of(0, 3)", x.of(0, 3), 0);
        });
        edge("9: NONE: no such WALKER", () -> {
            refused("set(-1, 0, 0)", -1, o -> o.set(-1, 0, 0));
            refused("set(5, 0, 0)", -1, o -> o.set(5, 0, 0));
            refused("set(MIN, 1, 0)", -1, o -> o.set(MIN, 1, 0));
            due("set(0, 0, 0) of none", x.set(0, 0, 0), -1);
        });
        edge("9: NONE: what below 0, above 1", () -> {
            refused("set(0, -1, 1)", -1, o -> o.set(0, -1, 1));
            refused("set(0, 2, 1)", -1, o -> o.set(0, 2, 1));
            refused("set(0, MAX, 1)", -1, o -> o.set(0, MAX, 1));
        });
        edge("9: NONE: no such CELL", () -> {
            refused("set(0, 0, -1)", -1, o -> o.set(0, 0, -1));
            refused("set(0, 0, 16)", -1, o -> o.set(0, 0, 16));
            refused("set(0, 0, MAX)", -1, o -> o.set(0, 0, MAX));
        });
        edge("9: NONE: no such MOOD, though there be such a CELL", () -> {
            refused("set(0, 1, -1)", -1, o -> o.set(0, 1, -1));
            refused("set(0, 1, 4)", -1, o -> o.set(0, 1, 4));
            refused("set(0, 1, MIN)", -1, o -> o.set(0, 1, MIN));
        });
        edge("9: an AWAY one is set, too", () -> {
            walkers(1);
            x.away(0, true);
            due("set(0, 0, 7)", x.set(0, 0, 7), 0);
            due("set(0, 1, 2)", x.set(0, 1, 2), 0);
            due("of(0, 2)", x.of(0, 2), 7);
            due("of(0, 3)", x.of(0, 3), 2);
        });
    }

    private static void away() {
        edge("10: whether it was, told twice alike", () -> {
            walkers(1);
            due("away(0, false)", x.away(0, false), 0);
            due("away(0, true)", x.away(0, true), 0);
            due("away(0, true)", x.away(0, true), 1);
            due("of(0, 4)", x.of(0, 4), 1);
            due("away(0, false)", x.away(0, false), 1);
            due("away(0, false)", x.away(0, false), 0);
            due("of(0, 4)", x.of(0, 4), 0);
        });
        edge("10: the first, the last, and no other", () -> {
            walkers(6);
            x.away(0, true);
            x.away(5, true);
            for (int w = 0; w < 6; w++) {
                due("of(" + w + ", 4)", x.of(w, 4), w % 5 == 0 ? 1 : 0);
            }
            x.away(5, false);
            due("of(0, 4)", x.of(0, 4), 1);
            due("of(5, 4)", x.of(5, 4), 0);
        });
        edge("10: NONE: no such WALKER", () -> {
            refused("away(-1, true)", -1, o -> o.away(-1, true));
            refused("away(5, true)", -1, o -> o.away(5, true));
            refused("away(5, false)", -1, o -> o.away(5, false));
            refused("away(32, true)", -1, o -> o.away(32, true));
            refused("away(MIN, true)", -1, o -> o.away(MIN, true));
            due("away(0, true) of none", x.away(0, true), -1);
        });
        edge("10: one refused is not AWAY when it comes", () -> {
            x.away(0, true);
            walkers(1);
            due("of(0, 4)", x.of(0, 4), 0);
        });
        edge("Terms 1: one AWAY does not go, nor does its MOOD, nor is it MOVED", () -> {
            park("stir 1 p=0");
            walkers(1);
            x.keep(ALL);
            x.away(0, true);
            x.pass(7);
            for (int what : new int[] {2, 3, 5}) {
                due("of(0, " + what + ")", x.of(0, what), 0);
            }
            x.away(0, false);
            x.pass(1);
            due("of(0, 2) when it is back", x.of(0, 2), 1);
            due("of(0, 3) when it is back", x.of(0, 3), 1);
            due("of(0, 5) when it is back", x.of(0, 5), 1);
        });
    }

    private static void told() {
        edge("11: NONE: what below 0", () -> {
            refused("told(-1)", -1, o -> o.told(-1));
            refused("told(MIN)", -1, o -> o.told(MIN));
        });
        edge("11: NONE: what 9, between 8 and 10", () -> refused("told(9)", -1, o -> o.told(9)));
        edge("11: NONE: what 14 and above, no MOOD", () -> {
            refused("told(14)", -1, o -> o.told(14));
            refused("told(MAX)", -1, o -> o.told(MAX));
        });
        edge("11: 10 and m: ROAD of MOOD 0 .. 3", () -> {
            for (int mood = 0; mood < 4; mood++) {
                x.road(mood, 100 + mood);
            }
            for (int mood = 0; mood < 4; mood++) {
                due("told(" + (10 + mood) + ")", x.told(10 + mood), 100 + mood);
            }
        });
        edge("11: 4: how many, not AWAY, are WRONG: none, and all six", () -> {
            walkers(6);
            due("told(4)", x.told(4), 6);
            x.road(0, 1);
            due("told(4) on the road", x.told(4), 0);
            x.road(0, 0);
            for (int w = 0; w < 6; w++) {
                x.away(w, true);
            }
            due("told(4) of away ones", x.told(4), 0);
        });
        edge("11: 5: MOVED of all, of AWAY ones, too", () -> {
            x.keep(ALL);
            walkers(2);
            x.pass(3);
            x.away(0, true);
            due("told(5)", x.told(5), 6);
            x.pass(1);
            due("told(5)", x.told(5), 7);
        });
        edge("11: 6: TROUBLE is behind 1 .. 12 STEPS: not now, not behind 13", () -> {
            walkers(1);
            int[] want = {0, 1, 1, 1, 1, 1, 1, 1, 1, 1, 1, 1, 1, 0, 0, 0};
            for (int cell = 0; cell < 16; cell++) {
                x.road(0, ALL & ~(1 << cell));
                due("told(6), wrong on " + cell, x.told(6), want[cell]);
            }
            x.road(0, 0);
            due("told(6), wrong on all", x.told(6), 12);
        });
        edge("11: 6: TROUBLE counts no AWAY ones, and is 0 of none", () -> {
            due("told(6) of none", x.told(6), 0);
            walkers(2);
            due("told(6)", x.told(6), 24);
            x.away(0, true);
            due("told(6), one away", x.told(6), 12);
            x.away(1, true);
            due("told(6), both away", x.told(6), 0);
        });
    }

    private static void figure() {
        edge("11: 7, 8: FIGURE without gravel, and with gravel everywhere", () -> {
            due("told(7)", x.told(7), 0);
            due("told(8)", x.told(8), 0);
            x.road(2, ALL);
            due("told(7)", x.told(7), ALL);
            due("told(8)", x.told(8), ALL);
            x.road(3, ALL);
            due("told(7)", x.told(7), ALL);
            due("told(8)", x.told(8), 0);
        });
        edge("11: 7, 8: those on one, two, three, four ROADS", () -> {
            x.road(0, 0b00011111);
            x.road(1, 0b00001110);
            x.road(2, 0b01001100);
            x.road(3, 0b10001000);
            due("told(7)", x.told(7), 0b11011111);
            due("told(8)", x.told(8), 0b11010001);
        });
    }

    private static void passes() {
        edge("12: n 0: no STEP goes", () -> {
            due("pass(0)", x.pass(0), 0);
            asked("pass(0)", o -> o.pass(0));
        });
        edge("12: n 60, the most", () -> {
            walkers(1);
            due("pass(60)", x.pass(60), 60);
            due("of(0, 2)", x.of(0, 2), 12);
        });
        edge("12: BAD: n below 0", () -> {
            refused("pass(-1)", -2, o -> o.pass(-1));
            refused("pass(MIN)", -2, o -> o.pass(MIN));
        });
        edge("12: BAD: n above 60", () -> {
            refused("pass(61)", -2, o -> o.pass(61));
            refused("pass(MAX)", -2, o -> o.pass(MAX));
        });
    }

    private static RoadForMood at(RoadForMood o, int step) {
        int now = o.told(0);
        for (; now + 60 <= step; now += 60) {
            o.pass(60);
        }
        o.pass(step - now);
        return o;
    }

    private static void lastStep() {
        edge("12: STEP: 9999 at most", () -> {
            at(x, 9990);
            due("pass(9)", x.pass(9), 9999);
            due("told(0)", x.told(0), 9999);
        });
        edge("12: n 0 at 9999", () -> {
            at(x, 9999);
            due("pass(0)", x.pass(0), 9999);
        });
        edge("12: STATE: it would be above 9999", () -> {
            at(x, 9990);
            due("pass(10)", x.pass(10), -3);
            due("pass(60)", x.pass(60), -3);
            due("told(0)", x.told(0), 9990);
            at(x, 9999);
            due("pass(1)", x.pass(1), -3);
            due("told(0)", x.told(0), 9999);
        });
        edge("12: STATE: nothing changes", () -> {
            RoadForMood one = atTheEnd();
            RoadForMood other = atTheEnd();
            due("pass(1)", one.pass(1), -3);
            for (int what = 0; what < 10; what++) {
                due("of(0, " + what + ")", one.of(0, what), other.of(0, what));
            }
            due("on(60, 1)", one.on(60, 1), other.on(60, 1));
        });
        edge("12: of BAD and STATE, BAD is told", () -> {
            at(x, 9999);
            due("pass(61)", x.pass(61), -2);
            due("pass(-1)", x.pass(-1), -2);
        });
        edge("Terms 1: MOVED: up to 9999, by one at each STEP", () -> {
            x.keep(ALL);
            walkers(1);
            at(x, 9998);
            due("of(0, 5)", x.of(0, 5), 9998);
            x.pass(1);
            due("of(0, 5)", x.of(0, 5), 9999);
            x.pass(1);
            due("of(0, 5)", x.of(0, 5), 9999);
        });
        edge("Terms 1: s, evenness, ROW at the last STEPS", () -> {
            park("stir 40 s=9;stir 20 s=8;rain 11");
            x.walker(0, 0, 0, 0);
            x.walker(6, 1, 0, 0);
            x.walker(2, 1, 0, 0);
            x.row(1, 3, 7);
            at(x, 9998);
            due("of(0, 8) at 9998", x.of(0, 8), 20);
            due("of(2, 9) at 9998", x.of(2, 9), 1);
            x.pass(1);
            due("of(0, 8) at 9999", x.of(0, 8), 40);
            due("of(1, 8) at 9999", x.of(1, 8), 48);
            due("told(2) at 9999", x.told(2), 1);
            due("of(2, 9) at 9999", x.of(2, 9), 0);
        });
    }

    private static RoadForMood atTheEnd() {
        return at(with(new RoadForMood(), o -> {
            o.walker(3, 1, 0, 0);
            o.keep(255);
            o.road(1, 7);
        }), 9999);
    }

    private static void goes(int kind, int v, int from, int to) {
        x = new RoadForMood();
        x.walker(kind, v, from, 0);
        x.pass(1);
        due("kind " + kind + " of " + v + " goes from " + from, x.of(0, 2), to);
    }

    private static void aroundTheRing() {
        edge("Terms 1: behind CELL 15 comes 0", () -> {
            goes(0, 0, 14, 15);
            goes(0, 0, 15, 0);
            goes(3, 2, 14, 0);
            goes(3, 2, 15, 1);
            goes(5, 0, 13, 15);
            goes(5, 0, 15, 1);
        });
        edge("Terms 1: 15 further on is one back, from 0, too", () -> {
            for (int from = 0; from < 2; from++) {
                x = new RoadForMood();
                x.walker(4, 0, from, 0);
                x.walker(4, 0, from, 0);
                x.pass(1);
                due("of(0, 2) from " + from, x.of(0, 2), from == 0 ? 15 : 0);
                due("of(1, 2) from " + from, x.of(1, 2), from == 0 ? 15 : 0);
            }
        });
        edge("Terms 1: a whole turn is 16 CELLS", () -> {
            x.walker(0, 0, 5, 0);
            x.pass(15);
            due("of(0, 2)", x.of(0, 2), 4);
            x.pass(1);
            due("of(0, 2)", x.of(0, 2), 5);
        });
    }

    private static void swayed(int kind, int mood, String text, int want) {
        x = new RoadForMood();
        x.walker(kind, 0, 0, mood);
        park(text);
        x.pass(1);
        due("kind " + kind + " in " + mood + " by " + text, x.of(0, 3), want);
    }

    private static void moods() {
        edge("Terms 1: MOOD is SWAY more, modulo 4: behind 3 comes 0", () -> {
            swayed(0, 3, "stir 1 p=0", 0);
            swayed(0, 2, "stir 1 p=0", 3);
            swayed(0, 3, "stir 99 p=0", 2);
            swayed(0, 1, "stir 4 p=0", 1);
            swayed(3, 3, "stir 0 p=0", 0);
        });
        edge("Terms 1: modulo 4, 0 .. 3 also for one below 0", () -> {
            swayed(0, 0, "calm 1 p=0", 3);
            swayed(0, 0, "calm 2 p=0", 2);
            swayed(0, 0, "calm 4 p=0", 0);
            swayed(0, 2, "calm 3 p=0", 3);
            swayed(0, 0, "calm 99 p=0", 1);
            swayed(2, 1, "calm 99 p=0", 3);
            swayed(3, 3, "calm 99 p=0", 1);
        });
    }

    private static void allAtOnce() {
        edge("Terms 1: a STEP goes by how all is ahead of it: no COMPANY yet of one who comes", () -> {
            x.walker(0, 0, 15, 0);
            x.walker(4, 0, 0, 0);
            x.walker(0, 0, 15, 0);
            x.pass(1);
            due("of(1, 2)", x.of(1, 2), 1);
            due("of(1, 3)", x.of(1, 3), 0);
        });
        edge("Terms 1: a STEP goes by how all is ahead of it: COMPANY still of one who goes", () -> {
            x.walker(0, 0, 5, 0);
            x.walker(4, 0, 5, 0);
            x.walker(0, 0, 9, 0);
            x.pass(1);
            due("of(1, 2)", x.of(1, 2), 4);
            due("of(1, 3)", x.of(1, 3), 2);
            due("of(1, 7)", x.of(1, 7), 0);
        });
        edge("Terms 1: a STEP goes by the CELL, MOOD and STEP ahead of it", () -> {
            park("stir 1 c=0&m=0&s=0;stir 2 c=1|m=1|s=1");
            walkers(1);
            x.pass(1);
            due("of(0, 3)", x.of(0, 3), 1);
        });
        edge("Terms 1: rain and evenness are those of the STEP ahead", () -> {
            park("rain 2");
            x.walker(0, 0, 0, 0);
            x.walker(5, 0, 0, 0);
            x.pass(1);
            due("of(0, 2), in the rain", x.of(0, 2), 0);
            x.pass(1);
            due("of(0, 2)", x.of(0, 2), 1);
            due("of(1, 2)", x.of(1, 2), 1);
        });
        edge("Terms 1: in the rain MOODS change all the same, and KEEPERS hand over", () -> {
            park("rain 1;stir 1 p=0");
            x.keep(1);
            walkers(2);
            x.road(3, 1);
            x.pass(1);
            due("of(0, 3)", x.of(0, 3), 3);
            due("of(0, 5)", x.of(0, 5), 1);
            due("of(1, 3)", x.of(1, 3), 3);
        });
    }

    private static void handedOver() {
        edge("Terms 1: WRONG is told by the new CELL and the new MOOD", () -> {
            park("stir 1 p=0");
            walkers(2);
            x.keep(0b10);
            x.road(1, 0b10);
            x.pass(1);
            due("of(0, 5), right in its new mood", x.of(0, 5), 0);
            due("of(0, 3)", x.of(0, 3), 1);
            due("of(1, 5), wrong in its old mood", x.of(1, 5), 1);
            due("of(1, 3)", x.of(1, 3), 1);
        });
        edge("Terms 1: a KEEPER on the CELL that one leaves hands nobody over", () -> {
            walkers(1);
            x.keep(0b1);
            x.pass(1);
            due("of(0, 5)", x.of(0, 5), 0);
        });
        edge("Terms 1: one who is not WRONG is not MOVED", () -> {
            x.walker(0, 0, 0, 3);
            x.keep(ALL);
            x.road(0, 0b10);
            x.road(3, 0b10);
            x.pass(1);
            due("of(0, 5)", x.of(0, 5), 0);
            due("of(0, 3)", x.of(0, 3), 3);
        });
        edge("Terms 1: its MOOD is the least whose ROAD has that CELL: from 0 to 3", () -> {
            for (int least = 0; least < 4; least++) {
                x = new RoadForMood();
                x.walker(0, 0, 15, least == 3 ? 0 : 3);
                x.keep(1);
                for (int mood = least; mood < (least == 3 ? 4 : 3); mood++) {
                    x.road(mood, 1);
                }
                x.pass(1);
                due("its mood by " + least, x.of(0, 3), least);
                due("moved by " + least, x.of(0, 5), 1);
            }
        });
        edge("Terms 1: its own MOOD, if no ROAD has that CELL: MOVED all the same", () -> {
            for (int mood = 0; mood < 4; mood++) {
                x = new RoadForMood();
                x.walker(0, 0, 0, mood);
                x.keep(0b10);
                x.road((mood + 1) % 4, ALL & ~0b10);
                x.pass(1);
                due("its mood", x.of(0, 3), mood);
                due("moved", x.of(0, 5), 1);
                due("still wrong", x.of(0, 6), 1);
            }
        });
        edge("Terms 1: MOVED by one where two KEEPERS are passed by a PACE of 2", () -> {
            x.walker(3, 2, 0, 0);
            x.keep(0b110);
            x.pass(1);
            due("of(0, 5)", x.of(0, 5), 1);
        });
    }
}
