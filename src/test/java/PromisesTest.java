import java.util.ArrayList;
import java.util.List;

/** Every promise of the document: ordinary inputs, the edges that it names, and wrong inputs. */
public final class PromisesTest {
    private static final long NO = Long.MIN_VALUE;
    private static final List<String> wrong = new ArrayList<>();
    private static int passed = 0;
    private static RoadForMood x = new RoadForMood();

    private static void due(String call, long got, long want) {
        if (got == want) {
            passed++;
        } else {
            wrong.add(call + " answered " + got + ", due is " + want);
        }
    }

    private static void fresh() {
        x = new RoadForMood();
    }

    private static int park(String text) {
        for (char sign : text.toCharArray()) {
            x.feed(sign);
        }
        return x.park();
    }

    private static void isPark(String text) {
        fresh();
        due("park " + text, park(text), 0);
    }

    private static void isFault(String text, int place) {
        fresh();
        due("park " + text, park(text), -10 - place);
    }

    /** A walker of a kind on a fresh ring, under a park (none if it is empty): its sway. */
    private static int swayOf(int kind, String text) {
        fresh();
        if (!text.isEmpty()) {
            park(text);
        }
        x.walker(kind, 5, 3, 2);
        return x.of(0, 8);
    }

    private static void many(int walkers) {
        fresh();
        for (int i = 0; i < walkers; i++) {
            x.walker(0, 0, 0, 0);
        }
    }

    public static void main(String[] args) {
        newObject();
        tapes();
        parkFaults();
        parkLimits();
        sums();
        roadsAndKeepers();
        walkers();
        swaysAndPaces();
        company();
        rows();
        setsAndAway();
        toldAndFigure();
        passes();
        keepersMove();
        rain();
        stepsToCome();
        straysAndMeets();
        postsAndGravel();
        seen();
        oddsAndMeans();
        plans();
        books();
        acts();
        kinds();
        images();
        counts();
        farBeyond();
        for (String fault : wrong) {
            System.out.println(fault);
        }
        System.out.println(passed + " passed, " + wrong.size() + " failed");
        System.exit(wrong.isEmpty() ? 0 : 1);
    }

    private static void newObject() {
        fresh();
        for (int what = 0; what <= 6; what++) {
            due("new count " + what, x.count(what), 0);
        }
        for (int what = 0; what <= 13; what++) {
            due("new told " + what, x.told(what), what == 9 ? -1 : 0);
        }
        due("new undo", x.undo(), -3);
        due("new trace", x.trace(0), -1);
        due("NONE", RoadForMood.NONE, -1);
        due("BAD", RoadForMood.BAD, -2);
        due("STATE", RoadForMood.STATE, -3);
        due("FULL", RoadForMood.FULL, -4);
        due("NO", RoadForMood.NO, NO);
    }

    private static void tapes() {
        fresh();
        due("feed -1", x.feed(-1), -2);
        due("feed 128", x.feed(128), -2);
        due("feed 0", x.feed(0), 1);
        due("feed 127", x.feed(127), 2);
        for (int i = 3; i <= 100; i++) {
            due("feed", x.feed('a'), i);
        }
        due("feed the 101st", x.feed('a'), -4);
        due("feed a bad 101st", x.feed(128), -2);
        due("signs", x.count(5), 100);
        due("park of junk", x.park(), -10);
        due("signs behind a fault", x.count(5), 0);
        due("park of nothing", x.park(), -10);
        due("park", park("rain 3"), 0);
        due("signs behind a park", x.count(5), 0);
        due("fault", park("rain x"), -15);
        due("rain holds behind a fault", x.told(1), 3);
        due("parks", x.count(1), 1);
        for (int i = 1; i < 5; i++) {
            due("park", park("rain " + i), i);
        }
        due("newest holds", x.told(1), 4);
        due("sixth park", park("rain 9"), -4);
        due("sixth fault", park("x"), -4);
        due("tape stays", x.count(5), 7);
        due("still the newest holds", x.told(1), 4);
        fresh();
        park("rain 12;calm 5 p=0");
        due("a shorter one behind a longer one", park("rain 1"), 1);
        due("its rain", x.told(1), 1);
        x.walker(0, 0, 0, 0);
        due("the longer one's calm is gone", x.of(0, 8), 0);
        due("a shorter fault", park("rain "), -15);
    }

    private static void parkFaults() {
        isFault("", 0);
        isFault("x", 0);
        isFault("sn", 1);
        isFault("rain", 4);
        isFault("rainy", 4);
        isFault("rain ", 5);
        isFault("rain  1", 5);
        isFault("rain 01", 6);
        isFault("rain 00", 6);
        isFault("rain 100", 7);
        isFault("rain 1 ", 6);
        isFault("rain 1;", 7);
        isFault("rain 1;;", 7);
        isFault("rain 1;rain", 11);
        isFault("stir", 4);
        isFault("stir 1", 6);
        isFault("stir 1;", 6);
        isFault("stir 1 ", 7);
        isFault("stir 1p=1", 6);
        isFault("stir 1  p=1", 7);
        isFault("stir 1 x=1", 7);
        isFault("stir 1 P=1", 7);
        isFault("stir 1 p", 8);
        isFault("stir 1 p1", 8);
        isFault("stir 1 p==1", 9);
        isFault("stir 1 p<=1", 9);
        isFault("stir 1 p=", 9);
        isFault("stir 1 p=01", 10);
        isFault("stir 1 p=123", 11);
        isFault("stir 1 p=1 ", 10);
        isFault("stir 1 p=1&", 11);
        isFault("stir 1 p=1||", 11);
        isFault("stir 1 p=1)", 10);
        isFault("stir 1 (p=1", 11);
        isFault("stir 1 (p=1;", 11);
        isFault("stir 1 ()", 8);
        isFault("stir 1 !", 8);
        isFault("stir 1 !&", 8);
        isFault("stir 1 !(p=1))", 13);
        isFault("stir 1 p=1!", 10);
        isFault("stir 1 p=1(", 10);
        isFault("calm 1 !!!!!!p=1", 12);
        isFault("calm 1 ((((((p=1", 12);
        isFault("calm 1 (!(!(!p=1", 12);
        isFault("calm 1 (((((p=1))))", 19);
    }

    private static void parkLimits() {
        isPark("rain 0");
        isPark("rain 99;stir 0 p=0;calm 99 s>99");
        isPark("stir 1 !!!!!p=1");
        isPark("stir 1 (((((p=1)))))");
        isPark("stir 1 (!(!(p=1|k=1))&!!!!v=1)|!!!!!c=1");
        isPark("stir 1 !!!!!p=1&!!!!!p=1|(((((p=1)))))&((!!!p=1))");
        isPark("stir 1 !(!(!p=1)&!!!k<2)|m>3");
        String ten = "rain 0;rain 1;rain 2;rain 3;rain 4;rain 5;rain 6;rain 7;rain 8;rain 9";
        isPark(ten);
        due("the last rain", x.told(1), 9);
        isFault(ten + ";", ten.length());
        isFault(ten + ";rain 1", ten.length());
        String full = "stir 99 p=1|p=1|p=1|p=1|p=1|p=1|p=1|p=1|p=1|p=1|p=1|p=1|p=1|p=1|p=1|p=1|p=1|p=1|p=1|p=1|p=1|p=1|p=12";
        due("signs of a full park", full.length(), 100);
        isPark(full);
    }

    private static void sums() {
        String[] hold = {"p=0", "p<1", "k=0", "k<1", "v=5", "v>4", "v<6", "c=3", "c>2", "m=2", "m<3", "s=0", "s<1", "!p=1",
            "(p=0)", "p=0&k=0", "p=1|k=0", "p=0|p=1&p=1", "!p=1&k=0", "!(p=1&k=0)", "!(p=1|k=1)", "!!p=0", "c<99",
            "p=1&p=1|p=0", "(p=0|p=1)&k=0", "p=1|p=1|p=0", "p=0&p=0&p=0"};
        String[] fail = {"p=1", "p>0", "p<0", "k=1", "v<5", "v>5", "v=4", "c=2", "c<3", "c>3", "m=1", "m>2", "s>0", "!p=0",
            "(p=0|p=1)&p=1", "p=1&p=0", "!p=0|k=1", "!(p=0&k=0)", "!!!p=0", "p=0&p=0&p=1", "p=1|p=1&p=0", "(!p=0)"};
        for (String test : hold) {
            due("stir by " + test, swayOf(0, "stir 7 " + test), 7);
            due("calm by " + test, swayOf(0, "calm 7 " + test), -7);
        }
        for (String test : fail) {
            due("stir by " + test, swayOf(0, "stir 7 " + test), 0);
            due("calm by " + test, swayOf(0, "calm 7 " + test), 0);
        }
        due("all together", swayOf(0, "stir 7 p=0;calm 3 p=0;stir 99 p=1;stir 20 v=5"), 24);
        for (int kind = 0; kind < 7; kind++) {
            int stirred = swayOf(kind, "stir 8 k=" + kind);
            due("k of kind " + kind, stirred - swayOf(kind, "stir 8 k<" + kind), kind == 2 || kind == 5 ? 16 : 8);
        }
        fresh();
        park("stir 1 p=0;stir 2 p=1;stir 3 p=2;stir 4 p=3;stir 5 p=4;stir 6 p=5");
        for (int i = 0; i < 6; i++) {
            x.walker(0, i, 0, 0);
            due("p of " + i, x.of(i, 8), i + 1);
        }
        fresh();
        park("stir 50 s=3");
        x.walker(0, 0, 0, 0);
        x.pass(13);
        due("s is of modulo 10", x.of(0, 8), 50);
        fresh();
        StringBuilder most = new StringBuilder("stir 99 p<9");
        for (int i = 1; i < 8; i++) {
            most.append(";stir 99 p<9");
        }
        park(most.toString());
        x.walker(2, 0, 0, 0);
        due("the most", x.of(0, 8), 2 * 8 * 99);
        park(most.toString().replace("stir", "calm"));
        due("the least", x.of(0, 8), -2 * 8 * 99);
    }

    private static void roadsAndKeepers() {
        fresh();
        due("road", x.road(0, 65535), 0);
        due("road again", x.road(0, 5), 65535);
        due("road to none", x.road(0, 0), 5);
        due("road of mood 3", x.road(3, 9), 0);
        due("told road 3", x.told(13), 9);
        due("road -1", x.road(-1, 0), -1);
        due("road 4", x.road(4, 0), -1);
        due("road 4, bad", x.road(4, -1), -1);
        due("road bad", x.road(3, 65536), -2);
        due("road below", x.road(3, -1), -2);
        due("road stays", x.told(13), 9);
        due("keep", x.keep(65535), 0);
        due("keep again", x.keep(2), 65535);
        due("keep bad", x.keep(65536), -2);
        due("keep below", x.keep(-1), -2);
        due("keepers stay", x.told(3), 2);
    }

    private static void walkers() {
        fresh();
        due("kind -1", x.walker(-1, 0, 0, 0), -1);
        due("kind 7", x.walker(7, 0, 0, 0), -1);
        due("cell -1", x.walker(0, 0, -1, 0), -1);
        due("cell 16", x.walker(0, 0, 16, 0), -1);
        due("mood -1", x.walker(0, 0, 0, -1), -1);
        due("mood 4", x.walker(0, 10, 0, 4), -1);
        due("v -1", x.walker(0, -1, 0, 0), -2);
        due("v 10", x.walker(0, 10, 0, 0), -2);
        due("none came", x.count(0), 0);
        for (int i = 0; i < 6; i++) {
            due("walker", x.walker(6 - i, 9 - i, 15 - i, i % 4), i);
        }
        due("seventh", x.walker(0, 0, 0, 0), -4);
        due("seventh of no kind", x.walker(7, 0, 0, 0), -1);
        due("seventh bad", x.walker(0, 10, 0, 0), -2);
        due("its kind", x.of(2, 0), 4);
        due("its v", x.of(2, 1), 7);
        due("its cell", x.of(2, 2), 13);
        due("its mood", x.of(3, 3), 3);
        due("not away", x.of(2, 4), 0);
        due("not moved", x.of(2, 5), 0);
        due("wrong", x.of(2, 6), 1);
        x.road(2, 1 << 13);
        due("on the road", x.of(2, 6), 0);
        due("of -1", x.of(-1, 0), -999999);
        due("of 6", x.of(6, 0), -999999);
        due("of what -1", x.of(0, -1), -999999);
        due("of what 10", x.of(0, 10), -999999);
    }

    private static void swaysAndPaces() {
        int[] sways = {7, 7, 14, 8, 7, 14, 8};
        int[] calm = {-7, -7, -14, -6, -7, -14, -6};
        int[] even = {1, 1, 1, 2, 1, 2, 2};
        int[] odd = {1, 1, 0, 2, 1, 1, 2};
        for (int kind = 0; kind < 7; kind++) {
            due("sway of kind " + kind, swayOf(kind, "stir 7 p=0"), sways[kind]);
            due("pace of kind " + kind, x.of(0, 9), even[kind]);
            x.pass(1);
            due("odd pace of kind " + kind, x.of(0, 9), odd[kind]);
            due("calm sway of kind " + kind, swayOf(kind, "calm 7 p=0"), calm[kind]);
            due("sway without a park of kind " + kind, swayOf(kind, ""), kind == 3 || kind == 6 ? 1 : 0);
        }
        swayOf(5, "stir 7 p=0");
        x.road(2, 8);
        due("proud on the road", x.of(0, 8), 0);
        for (int v = 0; v < 10; v++) {
            fresh();
            x.walker(3, v, 0, 0);
            due("drunk pace of v " + v, x.of(0, 9), v % 3);
        }
    }

    private static void company() {
        for (int kind : new int[] {0, 1, 4}) {
            swayOf(kind, "stir 7 p=0");
            due("alone", x.of(0, 7), 0);
            x.walker(0, 0, 3, 0);
            due("company", x.of(0, 7), 1);
            due("company's company", x.of(1, 7), 1);
            due("sway in company", x.of(0, 8), kind == 0 ? 7 : kind == 1 ? 0 : 2);
            due("pace in company", x.of(0, 9), kind == 4 ? 15 : 1);
            x.away(0, true);
            due("an away one has company", x.of(0, 7), 1);
            due("an away one is none", x.of(1, 7), 0);
            due("sway of an away one", x.of(0, 8), kind == 0 ? 7 : kind == 1 ? 0 : 2);
            x.away(1, true);
            due("both away", x.of(0, 7), 0);
            x.away(0, false);
            x.away(1, false);
            x.set(1, 0, 4);
            due("elsewhere", x.of(0, 7), 0);
        }
        fresh();
        x.walker(4, 0, 5, 0);
        x.walker(4, 0, 5, 0);
        x.walker(4, 0, 5, 0);
        x.away(2, true);
        x.pass(1);
        due("shy ones go back together", x.of(0, 2) * 100 + x.of(1, 2), 404);
        due("their mood", x.of(0, 3) * 10 + x.of(1, 3), 22);
        due("the away one stays", x.of(2, 2) * 10 + x.of(2, 3), 50);
    }

    private static void rows() {
        swayOf(6, "stir 7 p=0");
        x.walker(3, 0, 0, 0);
        due("row 0", x.row(0, 0, 9), 0);
        due("row 0 again", x.row(0, 0, 8), 9);
        due("row 3", x.row(0, 3, 4), 0);
        due("row of no one", x.row(2, 0, 0), -1);
        due("row -1", x.row(-1, 0, 0), -1);
        due("row k -1", x.row(0, -1, 0), -1);
        due("row k 4", x.row(0, 4, 10), -1);
        due("row n -1", x.row(0, 0, -1), -2);
        due("row n 10", x.row(1, 0, 10), -2);
        due("row of a drunk", x.row(1, 0, 0), -3);
        due("told sway", x.of(0, 8), 16);
        x.pass(3);
        due("told sway at 3", x.of(0, 8), 12);
        x.pass(1);
        due("told sway at 4", x.of(0, 8), 16);
    }

    private static void setsAndAway() {
        many(1);
        due("set cell", x.set(0, 0, 15), 0);
        due("set cell again", x.set(0, 0, 0), 15);
        due("set mood", x.set(0, 1, 3), 0);
        due("set mood again", x.set(0, 1, 0), 3);
        due("set cell 16", x.set(0, 0, 16), -1);
        due("set cell -1", x.set(0, 0, -1), -1);
        due("set mood 4", x.set(0, 1, 4), -1);
        due("set what 2", x.set(0, 2, 0), -1);
        due("set what -1", x.set(0, -1, 0), -1);
        due("set of no one", x.set(1, 0, 0), -1);
        due("away", x.away(0, true), 0);
        due("away still", x.away(0, true), 1);
        due("of away", x.of(0, 4), 1);
        x.pass(5);
        due("an away one stays", x.of(0, 2), 0);
        due("an away wrong one is not counted", x.told(4), 0);
        due("yet is wrong", x.of(0, 6), 1);
        due("back", x.away(0, false), 1);
        due("not away", x.away(0, false), 0);
        due("counted", x.told(4), 1);
        due("away of no one", x.away(1, true), -1);
        due("away of -1", x.away(-1, true), -1);
    }

    private static void toldAndFigure() {
        fresh();
        x.road(0, 0b0011);
        x.road(1, 0b0110);
        x.road(2, 0b1010);
        x.road(3, 0b10000);
        due("on any", x.told(7), 0b11111);
        due("on just one", x.told(8), 0b11101);
        due("told 9", x.told(9), -1);
        due("told -1", x.told(-1), -1);
        due("told 14", x.told(14), -1);
        x.walker(0, 0, 0, 0);
        due("trouble", x.told(6), 11);
        x.away(0, true);
        due("no trouble by away ones", x.told(6), 0);
    }

    private static void passes() {
        many(1);
        due("pass 0", x.pass(0), 0);
        due("pass -1", x.pass(-1), -2);
        due("pass 61", x.pass(61), -2);
        due("pass 60", x.pass(60), 60);
        due("round the ring", x.of(0, 2), 60 % 16);
        for (int i = 2; i <= 166; i++) {
            x.pass(60);
        }
        due("step", x.told(0), 9960);
        due("pass beyond", x.pass(40), -3);
        due("pass bad beyond", x.pass(61), -2);
        due("pass to the end", x.pass(39), 9999);
        due("pass none at the end", x.pass(0), 9999);
        due("pass one more", x.pass(1), -3);
        due("asked beyond", x.on(60, 10), (9999 + 60) % 16);
        fresh();
        park("calm 1 p=0;stir 6 p=1");
        x.walker(0, 0, 15, 0);
        x.walker(0, 0, 0, 3);
        x.pass(1);
        due("cell behind 15", x.of(0, 2), 0);
        due("mood below 0", x.of(0, 3), 3);
        due("mood beyond 3", x.of(1, 3), 1);
        fresh();
        park("stir 1 c=0");
        x.walker(4, 0, 0, 0);
        x.walker(0, 0, 1, 0);
        x.walker(0, 0, 2, 0);
        x.pass(1);
        due("all go at once", x.of(0, 2) * 10000 + x.of(0, 3) * 1000 + x.of(1, 2) * 10 + x.of(1, 3), 11020);
    }

    private static void keepersMove() {
        fresh();
        x.walker(0, 0, 0, 3);
        x.walker(0, 0, 1, 3);
        x.walker(0, 0, 2, 3);
        x.walker(0, 0, 3, 3);
        x.walker(0, 0, 4, 3);
        x.away(4, true);
        x.road(1, 1 << 1);
        x.road(2, 1 << 1 | 1 << 2);
        x.road(3, 1 << 4);
        x.keep(1 << 1 | 1 << 3 | 1 << 4);
        x.pass(1);
        due("moved to the least mood", x.of(0, 3), 1);
        due("moved", x.of(0, 5), 1);
        due("no keeper", x.of(1, 3), 3);
        due("no keeper, not moved", x.of(1, 5), 0);
        due("no road there: own mood", x.of(2, 3), 3);
        due("no road there: moved", x.of(2, 5), 1);
        due("not wrong: not moved", x.of(3, 5), 0);
        due("away: not moved", x.of(4, 5), 0);
        due("moved of all", x.told(5), 2);
        x.set(4, 0, 3);
        x.pass(1);
        due("away ones are not handed over", x.of(4, 5), 0);
        x.road(0, 1 << 4);
        x.set(2, 0, 3);
        x.road(3, 0);
        x.keep(1 << 4);
        due("moved to mood 0", x.on(1, 22), 0);
        x.away(0, true);
        due("moved of all, away ones too", x.told(5), 3);
    }

    private static void rain() {
        fresh();
        due("no park", x.told(2), 0);
        park("rain 0");
        due("rain 0", x.told(2), 0);
        park("rain 1");
        due("rains always", x.on(5, 0) + x.told(2), 1);
        park("rain 3");
        due("rain", x.told(1), 3);
        due("rains at 0", x.told(2), 1);
        for (int kind : new int[] {0, 3, 4, 5, 6}) {
            x.walker(kind, 2, 0, 0);
            due("pace in the rain", x.of(x.count(0) - 1, 9), 0);
        }
        x.pass(1);
        due("nobody went", x.of(0, 2) + x.of(2, 2) + x.of(3, 2), 0);
        due("no rain at 1", x.told(2), 0);
        x.pass(2);
        due("rains at 3", x.told(2), 1);
        due("two paces", x.of(0, 2), 2);
        park("rain 3;rain 2");
        due("the last rain", x.told(1), 2);
        due("no rain at 3", x.told(2), 0);
        park("stir 1 p=0");
        due("a newer park without rain", x.told(1), 0);
    }

    private static void stepsToCome() {
        many(2);
        x.road(0, 0b11110);
        x.keep(1 << 6);
        x.set(1, 0, 3);
        due("on 0", x.on(0, 0), 1);
        due("on 1", x.on(1, 0), 0);
        due("on 2", x.on(2, 0), 1);
        due("on 60, cell", x.on(60, 10), 12);
        due("on 60, cell of 1", x.on(60, 11), 15);
        due("on 6, moved", x.on(6, 1), 2);
        due("on 5, moved", x.on(5, 1), 1);
        due("on, mood", x.on(5, 21), 0);
        due("on -1", x.on(-1, 0), -2);
        due("on 61", x.on(61, 1), -2);
        due("on what 2", x.on(0, 2), -1);
        due("on what 12", x.on(0, 12), -1);
        due("on what 22", x.on(61, 22), -1);
        due("on what -1", x.on(0, -1), -1);
        due("nothing changed", x.told(0) + x.told(5) + x.of(0, 2), 0);
        park("stir 3 p=1");
        due("on, mood under a park", x.on(2, 21), 2);
        x.pass(4);
        due("on goes on from now", x.on(0, 10), 4);
    }

    private static void straysAndMeets() {
        many(2);
        x.road(0, 65535 & ~(1 << 10));
        due("strays", x.strays(0), 10);
        x.set(0, 0, 10);
        due("strays now", x.strays(0), 0);
        x.set(0, 0, 11);
        due("strays far on", x.strays(0), 15);
        x.road(0, 65535);
        due("strays never", x.strays(0), -5);
        due("strays of no one", x.strays(2), -1);
        due("strays of -1", x.strays(-1), -1);
        x.road(0, 0);
        x.away(0, true);
        due("an away one strays", x.strays(0), 0);
        straysLate();
        fresh();
        x.walker(0, 0, 0, 0);
        x.walker(2, 0, 9, 0);
        due("meet", x.meet(0, 1), 18);
        due("meet the other way", x.meet(1, 0), 18);
        x.set(0, 1, 1);
        due("meet in another mood", x.meet(0, 1), -5);
        x.set(0, 0, 9);
        x.set(0, 1, 0);
        due("meet now", x.meet(0, 1), 0);
        x.away(0, true);
        due("away ones meet", x.meet(0, 1), 0);
        x.set(0, 0, 8);
        x.away(1, true);
        due("never", x.meet(0, 1), -5);
        due("meet itself", x.meet(0, 0), -2);
        due("meet no one", x.meet(0, 2), -1);
        due("meet -1", x.meet(-1, 0), -1);
        due("no one meets itself", x.meet(9, 9), -1);
    }

    /** A stout one is on cell 14 at step 59, and at 60, and at no other step of that last sign. */
    private static void straysLate() {
        for (int late = 0; late < 2; late++) {
            fresh();
            park(late == 0 ? "stir 1 s=9&c=14" : "stir 1 s=0&c=14");
            x.walker(2, 0, 0, 0);
            x.walker(0, 0, 14 + late, 2);
            x.away(1, true);
            x.road(0, 65535);
            due("strays late", x.strays(0), late == 0 ? 60 : -5);
            due("meets late", x.meet(0, 1), late == 0 ? 60 : -5);
        }
    }

    private static void postsAndGravel() {
        many(1);
        x.road(1, 65535);
        due("trouble", x.told(6), 12);
        due("posts 0", x.posts(0, 0), 0);
        due("posts 0, how much", x.posts(0, 1), 12);
        due("posts 1", x.posts(1, 0), 2);
        due("posts 1, how much", x.posts(1, 1), 0);
        due("posts 2", x.posts(2, 0), 3);
        due("posts 3", x.posts(3, 0), 7);
        postsOfRoads();
        many(1);
        x.road(1, 65535);
        x.keep(1 << 1);
        due("other keepers go", x.posts(0, 1), 12);
        due("keepers stay", x.told(3), 2);
        due("posts what 2", x.posts(0, 2), -1);
        due("posts what -1", x.posts(9, -1), -1);
        due("posts 4", x.posts(4, 0), -2);
        due("posts -1", x.posts(-1, 1), -2);
        x.keep(0);
        due("gravel", x.gravel(), 1);
        due("gravel stays", x.told(10), 0);
        x.road(0, 65535 & ~(1 << 7));
        due("gravel on 7", x.gravel(), 7);
        x.road(0, 65535);
        due("no gravel", x.gravel(), -5);
        x.road(0, 0);
        x.set(0, 1, 2);
        due("gravel of mood 2", x.gravel(), 201);
        x.away(0, true);
        due("no gravel without trouble", x.gravel(), -5);
        fresh();
        x.walker(0, 0, 0, 0);
        x.road(0, 1 << 1);
        x.road(1, 65535);
        x.keep(1 << 1);
        due("gravel may be taken up", x.gravel(), 1);
    }

    /** One that goes from cell 0 on to cell 11, wrong but where a keeper hands it over to the mood of the next four cells. */
    private static void postsOfRoads() {
        fresh();
        x.walker(0, 0, 15, 0);
        due("posts that change nothing", x.posts(2, 0), 3);
        due("posts that change nothing, how much", x.posts(3, 1), 12);
        x.road(1, 0xf);
        x.road(2, 0xf0);
        x.road(3, 0xf00);
        int[] best = {0, 0x1, 0x11, 0x111};
        for (int n = 0; n <= 3; n++) {
            due("posts " + n, x.posts(n, 0), best[n]);
            due("how much by posts " + n, x.posts(n, 1), 12 - 4 * n);
        }
        x.road(1, 0xe);
        due("posts behind cell 0", x.posts(3, 0), 0x112);
        due("how much behind cell 0", x.posts(3, 1), 1);
        x.road(3, 0xe00);
        due("posts behind cells 0 and 8", x.posts(3, 0), 0x212);
        due("gravel among roads", x.gravel(), 0);
        fresh();
        x.walker(0, 0, 9, 0);
        x.road(0, 65535 & ~(1 << 12) & ~(1 << 2));
        x.road(1, 65535);
        due("least trouble by a greater cell", x.posts(1, 0), 1 << 12);
        due("no trouble left", x.posts(1, 1), 0);
        due("gravel is one place only", x.gravel(), 2);
    }

    private static void seen() {
        many(2);
        x.road(0, 0b1111);
        x.road(1, 0b1);
        due("felt, nothing seen", x.felt(0), 15);
        due("where, nothing seen", x.where(0), 65535);
        due("firm, nothing seen", x.firm(0, 0), 10);
        due("firm, the least", x.firm(0, 1), 0);
        due("see", x.see(0, 0, false), 1);
        due("felt", x.felt(0), 3);
        due("where", x.where(0), 15);
        due("see more", x.see(0, 2, true), 2);
        due("felt less", x.felt(0), 2);
        due("where less", x.where(0), 12);
        due("by another", x.felt(1), 0);
        due("firm none", x.firm(0, 0), 0);
        due("firm none, the least", x.firm(0, 1), -5);
        due("see no one", x.see(2, 0, true), -1);
        due("see -2", x.see(-2, 0, true), -1);
        due("see at -1", x.see(0, -1, true), -2);
        due("see at 21", x.see(0, 21, true), -2);
        due("see no one at 21", x.see(2, 21, true), -1);
        for (int i = 3; i <= 6; i++) {
            due("see", x.see(1, 20, false), i);
        }
        due("see the seventh", x.see(1, 0, true), -4);
        due("see the seventh, bad", x.see(1, 21, true), -2);
        due("see none", x.see(-1, 99, true), 0);
        due("none seen", x.count(2), 0);
        due("felt of no one", x.felt(2), -1);
        due("where of no one", x.where(2), -1);
        due("where of -1", x.where(-1), -1);
        due("firm of no one", x.firm(2, 0), -1);
        due("firm what 2", x.firm(0, 2), -1);
        due("firm what -1", x.firm(0, -1), -1);
        fresh();
        x.walker(3, 1, 0, 0);
        x.road(0, 0b100);
        x.road(1, 0b100);
        x.see(0, 1, false);
        due("firm of a drunk", x.firm(0, 0), 3);
        due("the least of a drunk", x.firm(0, 1), 2);
        due("v stays", x.of(0, 1), 1);
        park("stir 3 v>4");
        due("firm by v in a park", x.firm(0, 0), 3);
        x.pass(1);
        x.set(0, 0, 1);
        x.set(0, 1, 0);
        due("seen from when it is asked", x.where(0), 2);
    }

    private static void oddsAndMeans() {
        many(1);
        due("odds 1 above", x.odds(0, 0, 0), 1);
        due("odds 1 below", x.odds(0, 0, 1), 1);
        x.road(0, 1);
        due("odds 3 of 4 above", x.odds(0, 0, 0), 3);
        due("odds 3 of 4 below", x.odds(0, 0, 1), 4);
        x.road(1, 1);
        due("odds half above", x.odds(0, 0, 0), 1);
        due("odds half below", x.odds(0, 16, 1), 2);
        due("odds behind a step", x.odds(0, 1, 1), 1);
        x.road(2, 1);
        x.road(3, 1);
        due("odds 0 above", x.odds(0, 0, 0), 0);
        due("odds 0 below", x.odds(0, 0, 1), 1);
        due("odds behind 60", x.odds(0, 60, 0), 1);
        due("odds of no one", x.odds(1, 0, 0), NO);
        due("odds of -1", x.odds(0, -1, 0), NO);
        due("odds of 61", x.odds(0, 61, 0), NO);
        due("odds part 2", x.odds(0, 0, 2), NO);
        due("odds part -1", x.odds(0, 0, -1), NO);
        fresh();
        due("mean of none", x.mean(0, 0), NO);
        many(4);
        x.away(0, true);
        x.away(1, true);
        x.keep(0b1010);
        due("mean 0 above", x.mean(0, 0), 0);
        due("mean 0 below", x.mean(0, 1), 1);
        due("mean half above", x.mean(1, 0), 1);
        due("mean half below", x.mean(1, 1), 2);
        due("mean 1", x.mean(3, 1), 1);
        x.pass(1);
        due("mean of what is more", x.mean(2, 1), 2);
        due("mean behind 60", x.mean(60, 0) * 10 + x.mean(60, 1), 72);
        due("mean of -1", x.mean(-1, 0), NO);
        due("mean of 61", x.mean(61, 0), NO);
        due("mean part 2", x.mean(0, 2), NO);
        due("mean part -1", x.mean(0, -1), NO);
    }

    private static void plans() {
        many(2);
        x.road(0, 1);
        due("done, no plan", x.done(0), 0);
        due("plan a step", x.plan(0, Integer.MIN_VALUE), 1);
        due("done a step", x.done(0), 2);
        due("plan away", x.plan(1, 0), 2);
        due("done away", x.done(0), 1);
        due("plan a keeper", x.plan(3, 2), 3);
        due("plan a step", x.plan(0, 99), 4);
        due("done moved", x.done(1), 1);
        due("plan back", x.plan(2, 0), 5);
        due("plan no keeper", x.plan(3, 2), 6);
        due("plan a step", x.plan(0, 0), 7);
        due("done wrong", x.done(0), 2);
        due("done moved", x.done(1), 1);
        due("plan what 4", x.plan(4, 0), -1);
        due("plan what -2", x.plan(-2, 0), -1);
        due("plan no one away", x.plan(1, 2), -1);
        due("plan no one back", x.plan(2, -1), -1);
        due("plan no cell", x.plan(3, 16), -1);
        due("plan cell -1", x.plan(3, -1), -1);
        due("plan the eighth", x.plan(3, 15), 8);
        due("plan the ninth", x.plan(0, 0), -4);
        due("plan no ninth", x.plan(1, 9), -1);
        due("done what 2", x.done(2), -1);
        due("done what -1", x.done(-1), -1);
        due("nothing changed", x.told(0) + x.told(3) + x.told(5) + x.of(0, 4), 0);
        due("plan none", x.plan(-1, 77), 0);
        due("no rows", x.count(3), 0);
        x.keep(0b10);
        x.plan(3, 1);
        x.plan(0, 0);
        due("a keeper goes", x.done(1), 0);
    }

    private static void books() {
        many(2);
        due("looked at nothing", x.looked(), -5);
        due("book", x.book(0, 0), 1);
        due("book", x.book(1, 0), 2);
        due("as booked", x.looked(), -5);
        due("book another", x.book(1, 2), 3);
        due("the third is otherwise", x.looked(), 2);
        x.set(0, 1, 1);
        due("the first is otherwise", x.looked(), 0);
        x.set(0, 1, 0);
        x.set(1, 1, 2);
        due("the second is otherwise", x.looked(), 1);
        due("book no one", x.book(2, 0), -1);
        due("book -2", x.book(-2, 0), -1);
        due("book mood 4", x.book(0, 4), -1);
        due("book mood -1", x.book(0, -1), -1);
        for (int i = 4; i <= 8; i++) {
            due("book", x.book(0, 0), i);
        }
        due("book the ninth", x.book(0, 0), -4);
        due("book no ninth", x.book(0, 4), -1);
        due("book none", x.book(-1, 9), 0);
        due("no rows", x.count(4), 0);
    }

    private static void ran(String call, int got, int want, int... bodies) {
        due(call, got, want);
        due(call + ", bodies", x.count(6), bodies.length);
        for (int i = 0; i < bodies.length; i++) {
            due(call + ", body " + i, x.trace(i), bodies[i]);
        }
        due(call + ", no more", x.trace(bodies.length), -1);
    }

    private static void acts() {
        fresh();
        int[] kinds = {0, 1, 2, 3, 4, 5};
        for (int kind : kinds) {
            x.walker(kind, 3 + kind, 0, 0);
        }
        ran("walker strolls", x.act(0, 0, 10), 10, 1);
        ran("walker looks", x.act(0, 1, 10), 7, 2, 1);
        ran("walker tells", x.act(0, 2, 10), 14, 3, 2, 1);
        ran("lover strolls", x.act(1, 0, 10), 31, 11, 1);
        ran("lover looks", x.act(1, 1, 10), 27, 2, 11, 1);
        ran("lover tells", x.act(1, 2, 10), 54, 3, 2, 11, 1);
        ran("stout strolls", x.act(2, 0, 10), 12, 1);
        ran("stout looks", x.act(2, 1, 10), -7, 21, 2, 1);
        ran("stout tells", x.act(2, 2, 10), -14, 3, 21, 2, 1);
        ran("drunk looks", x.act(3, 1, 10), 7, 2, 1);
        ran("drunk tells", x.act(3, 2, 10), 14 ^ 7, 31, 3, 2, 1);
        ran("shy strolls", x.act(4, 0, 10), 34, 11, 1);
        ran("shy tells", x.act(4, 2, 10), (27 + 4 - 7) * 2 + 10, 41, 3, 2, 11, 1, 11, 1);
        ran("proud strolls", x.act(5, 0, 10), 15 ^ 5, 51, 1);
        ran("proud looks", x.act(5, 1, 10), -((15 ^ 5) - 8), 21, 2, 51, 1);
        ran("proud tells", x.act(5, 2, 10), -((15 ^ 5) - 8) * 2, 3, 21, 2, 51, 1);
        ran("wraps", x.act(1, 0, Integer.MAX_VALUE), Integer.MAX_VALUE * 3 + 1, 11, 1);
        ran("no one acts", x.act(6, 0, 1), 0);
        x.act(0, 0, 1);
        ran("no such act", x.act(0, 3, 1), 0);
        x.act(0, 0, 1);
        ran("act -1", x.act(0, -1, 1), 0);
        x.act(0, 0, 1);
        ran("-1 acts", x.act(-1, 0, 1), 0);
        due("trace -1", x.trace(-1), -1);
        fresh();
        x.walker(6, 4, 0, 0);
        ran("told strolls", x.act(0, 0, 10), 10, 1);
        ran("told looks", x.act(0, 1, 10), 10, 61, 2, 1);
        ran("told tells", x.act(0, 2, 10), 20 ^ 7, 31, 3, 61, 2, 1);
    }

    private static void kinds() {
        String[] under = {"0", "01", "02", "03", "014", "025", "036"};
        for (int kind = 0; kind < 7; kind++) {
            fresh();
            x.walker(kind, 9 - kind, 0, 0);
            for (int k = 0; k < 7; k++) {
                boolean is = under[kind].indexOf('0' + k) >= 0;
                due("kind " + kind + " as " + k, x.as(0, k), is ? 9 - kind : -6);
            }
        }
        due("as -1", x.as(0, -1), -1);
        due("as 7", x.as(0, 7), -1);
        due("no one as 0", x.as(1, 0), -1);
        due("-1 as 0", x.as(-1, 0), -1);
    }

    private static void images() {
        many(1);
        x.walker(6, 3, 2, 1);
        x.road(0, 3);
        x.keep(5);
        x.row(1, 1, 7);
        x.see(0, 1, true);
        x.plan(3, 3);
        x.book(0, 0);
        park("rain 4;stir 2 p=0");
        x.feed('r');
        x.act(0, 0, 1);
        due("image", x.image(), 2);
        x.pass(7);
        x.walker(2, 1, 1, 1);
        x.road(0, 9);
        x.keep(0);
        x.row(1, 1, 2);
        x.see(0, 1, true);
        x.plan(-1, 0);
        x.book(0, 0);
        x.away(0, true);
        park("ain 5");
        x.feed('q');
        x.act(1, 1, 1);
        due("undo", x.undo(), 2);
        int[] counts = {2, 1, 1, 1, 1, 1, 3};
        for (int what = 0; what < counts.length; what++) {
            due("count behind undo " + what, x.count(what), counts[what]);
        }
        due("step", x.told(0), 0);
        due("rain", x.told(1), 4);
        due("keepers", x.told(3), 5);
        due("road", x.told(10), 3);
        due("row", x.row(1, 1, 0), 7);
        due("cell", x.of(0, 2), 0);
        due("away", x.of(0, 4), 0);
        due("sway", x.of(0, 8), 2);
        due("the trace stays", x.trace(0), 61);
        due("the tape goes on", park("ain 8"), 1);
        due("undo again", x.undo(), 2);
        due("rain again", x.told(1), 4);
        due("another in its place", x.walker(0, 1, 1, 1), 2);
        due("image of three", x.image(), 3);
        due("undo of three", x.undo(), 3);
        fresh();
        x.walker(0, 0, 0, 0);
        x.road(0, 1);
        x.see(0, 0, false);
        x.plan(1, 0);
        x.book(0, 0);
        x.image();
        x.see(-1, 0, false);
        x.see(0, 1, true);
        x.plan(-1, 0);
        x.plan(3, 15);
        x.book(-1, 0);
        x.book(0, 3);
        x.set(0, 0, 1);
        due("otherwise", x.where(0) * 100 + x.looked() * 10 + x.done(0), 3276701);
        x.undo();
        due("seen as it was", x.where(0), 1);
        due("plan as it was", x.done(0), 0);
        due("book as it was", x.looked(), -5);
        fresh();
        x.image();
        x.walker(6, 1, 1, 1);
        x.row(0, 0, 9);
        x.keep(65535);
        x.pass(3);
        due("undo to none", x.undo(), 0);
        x.walker(6, 2, 2, 2);
        due("a new one's row", x.row(0, 0, 1), 0);
        due("a new one's moved", x.of(0, 5), 0);
    }

    private static void counts() {
        fresh();
        due("count -1", x.count(-1), -1);
        due("count 7", x.count(7), -1);
        x.walker(0, 0, 0, 0);
        x.feed('x');
        x.see(0, 0, true);
        x.plan(0, 0);
        x.plan(0, 0);
        x.book(0, 0);
        x.act(0, 2, 0);
        int[] counts = {1, 0, 1, 2, 1, 1, 3};
        for (int what = 0; what < counts.length; what++) {
            due("count " + what, x.count(what), counts[what]);
        }
    }

    private static void farBeyond() {
        many(1);
        x.keep(65535);
        for (int i = 0; i < 166; i++) {
            x.pass(60);
        }
        x.pass(39);
        due("moved at every step", x.of(0, 5), 9999);
        due("moved beyond, asked", x.on(60, 1), 10059);
        due("mean beyond", x.mean(60, 0), 60);
        x.plan(0, 0);
        due("done beyond", x.done(1), 10000);
        due("moved stays", x.told(5), 9999);
    }
}
