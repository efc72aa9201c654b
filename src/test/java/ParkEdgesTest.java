/** The edges of promises 1 to 3: a new object, the tape, parks. */
public final class ParkEdgesTest extends Edges {
    private static final String TEN = "rain 0;rain 1;rain 2;rain 3;rain 4;rain 5;rain 6;rain 7;rain 8;rain 9";
    private static final String FULL_TAPE = "stir 10 " + "p=1|".repeat(22) + "p=10";

    public static void main(String[] args) {
        edges();
        end();
    }

    static void edges() {
        newObject();
        signs();
        reading();
        fullParks();
        clauses();
        blanks();
        numbers();
        parts();
        open();
        faults();
        factsOfTests();
        sums();
        rain();
    }

    private static void isPark(String text) {
        x = new RoadForMood();
        due("park " + text, park(text), 0);
    }

    private static void isFault(String text, int place) {
        x = new RoadForMood();
        due("park " + text, park(text), -10 - place);
    }

    private static void newObject() {
        edge("1: no WALKERS", () -> {
            due("count(0)", x.count(0), 0);
            due("of(0, 0)", x.of(0, 0), NOTHING);
            due("strays(0)", x.strays(0), -1);
            due("act(0, 0, 5)", x.act(0, 0, 5), 0);
            due("told(4)", x.told(4), 0);
            due("told(5)", x.told(5), 0);
            due("told(6)", x.told(6), 0);
        });
        edge("1: no PARK", () -> {
            due("count(1)", x.count(1), 0);
            due("told(1)", x.told(1), 0);
            due("told(2)", x.told(2), 0);
        });
        edge("1: no gravel", () -> {
            for (int what : new int[] {7, 8, 10, 11, 12, 13}) {
                due("told(" + what + ")", x.told(what), 0);
            }
        });
        edge("Terms 1: ROAD of each MOOD: no CELLS at first, so that one is WRONG anywhere", () -> {
            walkers(1);
            for (int place = 0; place < 64; place++) {
                x.set(0, 0, place % 16);
                x.set(0, 1, place / 16);
                due("of(0, 6) on " + place, x.of(0, 6), 1);
            }
        });
        edge("Terms 1: KEEPERS stand on no CELLS at first", () -> {
            due("told(3)", x.told(3), 0);
            walkers(1);
            x.pass(60);
            due("moved by none", x.of(0, 5), 0);
        });
        edge("Terms 1: STEP: 0 at first", () -> due("told(0)", x.told(0), 0));
        edge("Terms 1: THE TAPE is empty at first", () -> {
            due("count(5)", x.count(5), 0);
            due("park()", x.park(), -10);
        });
        edge("Terms 2: nothing is SEEN, planned, booked at first", () -> {
            for (int what = 2; what <= 4; what++) {
                due("count(" + what + ")", x.count(what), 0);
            }
            due("looked()", x.looked(), -5);
            due("done(0)", x.done(0), 0);
            due("done(1)", x.done(1), 0);
            walkers(1);
            due("felt(0)", x.felt(0), 15);
        });
        edge("Terms 2: no body ran, nothing is in THE TRACE at first", () -> {
            due("count(6)", x.count(6), 0);
            due("trace(0)", x.trace(0), -1);
        });
        edge("a new object has nothing of another one", () -> {
            RoadForMood other = lively();
            picture(other);
            for (int what = 0; what < 7; what++) {
                due("count(" + what + ")", new RoadForMood().count(what), 0);
            }
            alike("another object's calls", lively(), lively());
        });
    }

    private static void signs() {
        edge("2: a sign is 0 .. 127: 0 comes", () -> due("feed(0)", x.feed(0), 1));
        edge("2: a sign is 0 .. 127: 127 comes", () -> due("feed(127)", x.feed(127), 1));
        edge("2: BAD: a sign below 0", () -> {
            refused("feed(-1)", -2, o -> o.feed(-1));
            refused("feed(MIN)", -2, o -> o.feed(MIN));
        });
        edge("2: BAD: a sign above 127", () -> {
            refused("feed(128)", -2, o -> o.feed(128));
            refused("feed(MAX)", -2, o -> o.feed(MAX));
        });
        edge("2: a sign comes behind THE TAPE's: how many it has, 100 at most", () -> {
            for (int i = 1; i <= 100; i++) {
                due("feed, the sign " + i, x.feed('a'), i);
            }
            due("count(5)", x.count(5), 100);
        });
        edge("2: FULL: the 101st sign", () -> {
            feed(x, FULL_TAPE);
            due("the size of a full tape", x.count(5), 100);
            due("feed(48)", x.feed('0'), -4);
            due("feed(0)", x.feed(0), -4);
            due("count(5)", x.count(5), 100);
            due("park()", x.park(), 0);
        });
        edge("2: of BAD and FULL, BAD is told", () -> {
            feed(x, FULL_TAPE);
            due("feed(128)", x.feed(128), -2);
            due("feed(-1)", x.feed(-1), -2);
        });
        edge("2: a BAD sign does not come", () -> {
            feed(x, "rain ");
            x.feed(128);
            x.feed('8' + 128);
            x.feed('8' - 256);
            due("feed(55)", x.feed('7'), 6);
            due("park()", x.park(), 0);
            due("told(1)", x.told(1), 7);
        });
        edge("2: THE TAPE has room again behind a park", () -> {
            feed(x, FULL_TAPE);
            x.park();
            due("feed(114)", x.feed('r'), 1);
        });
    }

    private static void reading() {
        edge("3: THE TAPE is empty then", () -> {
            due("park()", park("rain 4"), 0);
            due("count(5)", x.count(5), 0);
            due("park() of nothing", x.park(), -10);
        });
        edge("3: THE TAPE is empty then, by a FAULT, too", () -> {
            due("park()", park("rain 4;x"), -17);
            due("count(5)", x.count(5), 0);
            due("park() of nothing", x.park(), -10);
            due("park()", park("rain 4"), 0);
        });
        edge("3: by a FAULT the one that held holds", () -> {
            walkers(1);
            park("rain 4;stir 3 p=0");
            park("rain 7;calm 9 p=0;");
            due("told(1)", x.told(1), 4);
            due("of(0, 8)", x.of(0, 8), 3);
            due("count(1)", x.count(1), 1);
        });
        edge("3: by a FAULT, where no one held, none holds", () -> {
            walkers(1);
            park("rain 7;calm 9 p=0;");
            due("told(1)", x.told(1), 0);
            due("of(0, 8)", x.of(0, 8), 0);
            due("count(1)", x.count(1), 0);
        });
        edge("3: PARKS are numbered from 0 on, a FAULT takes no number", () -> {
            due("the first", park("rain 1"), 0);
            due("a fault", park("rain 1;"), -17);
            due("the second", park("rain 2"), 1);
            due("a fault", park("y"), -10);
            due("the third", park("rain 3"), 2);
        });
        edge("3: the newest one holds", () -> {
            walkers(1);
            park("rain 5;stir 3 p=0");
            park("calm 2 p=0");
            due("told(1)", x.told(1), 0);
            due("of(0, 8)", x.of(0, 8), -2);
            park("rain 6");
            due("told(1)", x.told(1), 6);
            due("of(0, 8)", x.of(0, 8), 0);
        });
        edge("3: an empty TAPE has its FAULT at 0", () -> refused("park()", -10,
            () -> with(lively(), RoadForMood::park), o -> o.park()));
    }

    private static RoadForMood withParks(int many) {
        RoadForMood o = new RoadForMood();
        o.walker(0, 0, 0, 0);
        for (int i = 0; i < many; i++) {
            feed(o, "stir " + (i + 1) + " p=0");
            o.park();
        }
        o.image();
        return o;
    }

    private static void fullParks() {
        edge("3: PARKS: 5 at most", () -> {
            for (int i = 0; i < 5; i++) {
                due("park " + i, park("rain " + i), i);
            }
            due("the sixth", park("rain 9"), -4);
            due("count(1)", x.count(1), 5);
            due("told(1)", x.told(1), 4);
        });
        edge("3: FULL: THE TAPE stays", () -> {
            x = withParks(5);
            feed(x, "rain 9");
            due("park()", x.park(), -4);
            due("count(5)", x.count(5), 6);
            due("feed(48)", x.feed('0'), 7);
        });
        edge("3: FULL is ahead of all, of a FAULT, too", () -> {
            refused("park() of a fault", -4, () -> with(withParks(5), o -> feed(o, "xyz")), RoadForMood::park);
            refused("park() of a good one", -4, () -> with(withParks(5), o -> feed(o, "rain 9")), RoadForMood::park);
            refused("park() of nothing", -4, () -> withParks(5), RoadForMood::park);
        });
        edge("3: of four PARKS, a FAULT is told, not FULL", () -> {
            x = withParks(4);
            due("a fault", park("rain"), -14);
            due("the fifth", park("rain 9"), 4);
        });
    }

    private static void clauses() {
        edge("Terms 1: CLAUSES: 1 at least", () -> {
            isFault("", 0);
            isFault(";", 0);
            isFault(";rain 1", 0);
        });
        edge("Terms 1: CLAUSES: one is enough, of each word", () -> {
            isPark("rain 1");
            isPark("stir 1 p=1");
            isPark("calm 1 p=1");
        });
        edge("Terms 1: CLAUSES: 10 at most", () -> {
            isPark(TEN);
            due("told(1)", x.told(1), 9);
            isFault(TEN + ";rain 5", 69);
        });
        edge("Terms 1: nine CLAUSES may go on", () -> isFault(TEN.substring(0, 63), 63));
        edge("Terms 1: none of ; behind the tenth", () -> isFault(TEN + ";", 69));
        edge("Terms 1: ; between: a CLAUSE must come behind each", () -> {
            isFault("rain 1;", 7);
            isFault("rain 1;;rain 2", 7);
            isFault("stir 1 p=1;", 11);
        });
        edge("Terms 1: ; between: no CLAUSE goes without", () -> {
            isFault("rain 1rain 2", 6);
            isFault("rain 1,rain 2", 6);
            isFault("stir 1 p=1stir 1 p=1", 10);
        });
        edge("Terms 1: only the words rain, stir, calm, small and whole", () -> {
            isFault("Rain 1", 0);
            isFault("rAin 1", 1);
            isFault("raim 1", 3);
            isFault("sitr 1 p=1", 1);
            isFault("stil 1 p=1", 3);
            isFault("call 1 p=1", 3);
            isFault("palm 1 p=1", 0);
            isFault("rains 1", 4);
        });
    }

    private static void blanks() {
        edge("Terms 1: one blank ahead of each part behind the word: not none", () -> {
            isFault("rain1", 4);
            isFault("stir1 p=1", 4);
            isFault("calm1 p=1", 4);
            isFault("stir 1p=1", 6);
            isFault("calm 12p=1", 7);
        });
        edge("Terms 1: one blank ahead of each part behind the word: not two", () -> {
            isFault("rain  1", 5);
            isFault("stir  1 p=1", 5);
            isFault("calm 1  p=1", 7);
        });
        edge("Terms 1: no blank anywhere else", () -> {
            isFault(" rain 1", 0);
            isFault("rain 1 ", 6);
            isFault("rain 1 ;rain 2", 6);
            isFault("rain 1; rain 2", 7);
            isFault("stir 1 p =1", 8);
            isFault("stir 1 p= 1", 9);
            isFault("stir 1 p=1 ", 10);
            isFault("stir 1 p=1 |p=1", 10);
            isFault("stir 1 p=1| p=1", 11);
            isFault("stir 1 ! p=1", 8);
            isFault("stir 1 ( p=1)", 8);
            isFault("stir 1 (p=1 )", 11);
        });
    }

    private static void numbers() {
        edge("Terms 1: n: 1 digit at least", () -> {
            isFault("rain ", 5);
            isFault("rain ;", 5);
            isFault("rain -1", 5);
            isFault("stir  p=1", 5);
            isFault("calm p=1", 5);
        });
        edge("Terms 1: n: 2 digits at most", () -> {
            isPark("rain 99");
            isPark("stir 99 p=1");
            isPark("calm 99 p=1");
            isFault("rain 100", 7);
            isFault("stir 100 p=1", 7);
            isFault("calm 999 p=1", 7);
        });
        edge("Terms 1: n: digits are 0 .. 9", () -> {
            isPark("rain 90");
            isFault("rain /", 5);
            isFault("rain :", 5);
            isFault("rain 1/", 6);
            isFault("rain 1:", 6);
        });
        edge("Terms 1: n: no 0 ahead of another", () -> {
            isPark("rain 0");
            isPark("stir 0 p=1");
            isPark("calm 0 p=1");
            isPark("rain 10");
            isFault("rain 00", 6);
            isFault("rain 01", 6);
            isFault("stir 01 p=1", 6);
            isFault("calm 00 p=1", 6);
        });
        edge("Terms 1: a number likewise: 1 digit at least", () -> {
            isFault("stir 1 p=", 9);
            isFault("stir 1 p=|p=1", 9);
            isFault("stir 1 p=p", 9);
        });
        edge("Terms 1: a number likewise: 2 digits at most", () -> {
            isPark("stir 1 p=99");
            isFault("stir 1 p=100", 11);
            isFault("stir 1 (p<100)", 12);
        });
        edge("Terms 1: a number likewise: no 0 ahead of another", () -> {
            isPark("stir 1 p=0");
            isFault("stir 1 p=00", 10);
            isFault("stir 1 p>07", 10);
        });
    }

    private static void parts() {
        edge("Terms 1: E: a T at least, and one behind each |", () -> {
            isFault("stir 1 ", 7);
            isFault("stir 1 |p=1", 7);
            isFault("stir 1 p=1|", 11);
            isFault("stir 1 p=1||p=1", 11);
        });
        edge("Terms 1: T: an F at least, and one behind each &", () -> {
            isFault("stir 1 &p=1", 7);
            isFault("stir 1 p=1&", 11);
            isFault("stir 1 p=1&&p=1", 11);
            isFault("stir 1 p=1&|p=1", 11);
        });
        edge("Terms 1: F: !F needs its F", () -> {
            isFault("stir 1 !", 8);
            isFault("stir 1 !|p=1", 8);
            isFault("stir 1 !)", 8);
        });
        edge("Terms 1: F: (E) needs its E, and its )", () -> {
            isFault("stir 1 (", 8);
            isFault("stir 1 ()", 8);
            isFault("stir 1 (p=1", 11);
            isFault("stir 1 (p=1;", 11);
            isFault("stir 1 (p=1|", 12);
            isFault("stir 1 (p=1!", 11);
            isFault("stir 1 (p=1(", 11);
        });
        edge("Terms 1: F: no ) without its (", () -> {
            isFault("stir 1 )", 7);
            isFault("stir 1 p=1)", 10);
            isFault("stir 1 (p=1))", 12);
            isFault("stir 1 !p=1)", 11);
        });
        edge("Terms 1: a TEST: p or k or v or c or m or s", () -> {
            for (char letter = 0; letter < 128; letter++) {
                if ("pkvcms".indexOf(letter) >= 0) {
                    isPark("stir 1 " + letter + "=1");
                } else if (letter != '!' && letter != '(') {
                    isFault("stir 1 " + letter + "=1", 7);
                }
            }
        });
        edge("Terms 1: a TEST: one of < = >", () -> {
            for (char sign = 0; sign < 128; sign++) {
                if ("<=>".indexOf(sign) >= 0) {
                    isPark("stir 1 p" + sign + "1");
                } else {
                    isFault("stir 1 p" + sign + "1", 8);
                }
            }
            isFault("stir 1 p<=1", 9);
            isFault("stir 1 p<>1", 9);
        });
        edge("Terms 1: only ; | & or one digit more go on behind a TEST", () -> {
            for (char sign = 0; sign < 128; sign++) {
                int fault = ";|&".indexOf(sign) >= 0 ? 11 : 10;
                if (sign >= '0' && sign <= '9') {
                    isPark("stir 1 p=1" + sign);
                } else {
                    isFault("stir 1 p=1" + sign, fault);
                }
            }
        });
    }

    private static void open() {
        edge("Terms 1: at most 5 of ! are open", () -> {
            isPark("stir 1 !!!!!p=1");
            isFault("stir 1 !!!!!!p=1", 12);
        });
        edge("Terms 1: at most 5 of ( are open", () -> {
            isPark("stir 1 (((((p=1)))))");
            isFault("stir 1 ((((((p=1))))))", 12);
        });
        edge("Terms 1: at most 5 of ! and ( together are open", () -> {
            isPark("stir 1 !(!(!p=1))");
            isPark("stir 1 (!(!(p=1)))");
            isFault("stir 1 !(!(!(p=1)))", 12);
            isFault("stir 1 (!(!(!p=1)))", 12);
        });
        edge("Terms 1: a ( is open till its )", () -> {
            isPark("stir 1 (((((p=1)))))&(((((p=1)))))");
            isPark("stir 1 ((((p=1))&((p=1))))");
            isFault("stir 1 ((((p=1)&((p=1))))&(((((p=1)))))", 30);
            isFault("stir 1 (((((p=1&(p=1))))))", 16);
            isFault("stir 1 (((((p=1|!p=1)))))", 16);
        });
        edge("Terms 1: a ! is open till its F ends", () -> {
            isPark("stir 1 !!!!!p=1|!!!!!p=1&!!!!!p=1");
            isPark("stir 1 (!!!!p=1&!!!!p=1)");
            isPark("stir 1 !(p=1)&!!!!(p=1)");
            isFault("stir 1 !!(p=1|!!!p=1)", 16);
            isFault("stir 1 (!p=1&!!!!!p=1)", 17);
        });
        edge("Terms 1: none is open any more in the next CLAUSE", () -> {
            isPark("stir 1 !!!!!p=1;calm 1 !!!!!p=1;stir 1 (((((p=1)))))");
            isFault("stir 1 p=1;calm 1 !!!!!!p=1", 23);
        });
    }

    private static void faults() {
        String text = "rain 10;stir 2 !(p=1|k<2)&v>30;calm 99 m=0";
        edge("Terms 1: FAULT: the size, if it ends too early", () -> {
            for (int size = 0; size <= text.length(); size++) {
                boolean isPark = size == 6 || size == 7 || size == 25 || size == 29 || size == 30 || size == 42;
                if (isPark) {
                    isPark(text.substring(0, size));
                } else {
                    isFault(text.substring(0, size), size);
                }
            }
        });
        edge("Terms 1: FAULT: the place of the first byte with which no PARK can go on", () -> {
            for (int place = 0; place <= text.length(); place++) {
                for (char sign : new char[] {0, 'X', 127}) {
                    String rest = place < text.length() ? text.substring(place + 1) : "";
                    isFault(text.substring(0, place) + sign + rest, place);
                    isFault(text.substring(0, place) + sign, place);
                }
            }
        });
        edge("Terms 1: FAULT: of several the first place", () -> {
            isFault("rain 1;x;x", 7);
            isFault("rain 01;stir", 6);
        });
        edge("Terms 1: a PARK may have 100 bytes", () -> {
            due("its size", FULL_TAPE.length(), 100);
            isPark(FULL_TAPE);
            x.walker(0, 0, 0, 0);
            x.walker(0, 0, 0, 0);
            due("of(1, 8)", x.of(1, 8), 10);
        });
        edge("Terms 1: a FAULT at the last of 100 bytes", () -> isFault(FULL_TAPE.substring(0, 99) + "X", 99));
        edge("Terms 1: a FAULT at 100, where 100 bytes end too early", () -> {
            isFault("stir 1 " + "p=1|".repeat(23) + "p", 100);
            isFault("stir 1 (" + "p=1|".repeat(22) + "p=11", 100);
        });
        edge("Terms 1: a FAULT is told of the latest TAPE, not of one before", () -> {
            due("a late one", park("rain 1;rain 2;x"), -24);
            due("an early one", park("rain x"), -15);
            due("none", park("rain 1;rain 2"), 0);
            due("an earlier one", park("x"), -10);
        });
    }

    /** Whether a test holds for one of the kind WALKER; its park is gone again then, as there are 5 at most. */
    private static void holds(int walker, String test, boolean is) {
        x.image();
        park("stir 7 " + test);
        due("stir 7 " + test + " of " + walker, x.of(walker, 8), is ? 7 : 0);
        x.undo();
    }

    private static void factsOfTests() {
        edge("Terms 1: p its number, from 0 to 5", () -> {
            walkers(6);
            for (int w = 0; w < 6; w++) {
                holds(w, "p=" + w, true);
                holds(w, "p<" + w, false);
                holds(w, "p<" + (w + 1), true);
                holds(w, "p>" + w, false);
            }
            holds(0, "p=6", false);
        });
        edge("Terms 1: k its KIND, from 0 to 6", () -> {
            for (int kind = 0; kind < 7; kind++) {
                x = new RoadForMood();
                x.walker(kind, 0, 0, 0);
                int none = x.of(0, 8);
                park("stir 8 k=" + kind);
                due("of a kind " + kind, x.of(0, 8) - none, kind == 2 || kind == 5 ? 16 : 8);
                park("stir 8 k<" + kind + "|k>" + kind);
                due("of another kind than " + kind, x.of(0, 8) - none, 0);
            }
        });
        edge("Terms 1: v its v, from 0 to 9", () -> {
            x.walker(0, 0, 0, 0);
            x.walker(0, 9, 0, 0);
            holds(0, "v=0", true);
            holds(0, "v>0", false);
            holds(0, "v<1", true);
            holds(1, "v=9", true);
            holds(1, "v>9", false);
            holds(1, "v<10", true);
        });
        edge("Terms 1: c its CELL, from 0 to 15", () -> {
            x.walker(0, 0, 0, 0);
            x.walker(0, 0, 15, 0);
            holds(0, "c=0", true);
            holds(0, "c<1", true);
            holds(0, "c=16", false);
            holds(1, "c=15", true);
            holds(1, "c>14", true);
            holds(1, "c<15", false);
        });
        edge("Terms 1: m its MOOD, from 0 to 3", () -> {
            x.walker(0, 0, 0, 0);
            x.walker(0, 0, 0, 3);
            holds(0, "m=0", true);
            holds(0, "m=4", false);
            holds(1, "m=3", true);
            holds(1, "m>2", true);
            holds(1, "m>3", false);
        });
        edge("Terms 1: s STEP modulo 10", () -> {
            walkers(1);
            park("stir 7 s=9;stir 20 s=0;stir 50 s=10");
            due("at 0", x.of(0, 8), 20);
            x.pass(9);
            due("at 9", x.of(0, 8), 7);
            x.pass(1);
            due("at 10", x.of(0, 8), 20);
            x.pass(59);
            due("at 69", x.of(0, 8), 7);
            x.pass(1);
            due("at 70", x.of(0, 8), 20);
        });
        edge("Terms 1: < and > do not hold for the same number, nor for one at the end of a number's room", () -> {
            walkers(1);
            holds(0, "p<0", false);
            holds(0, "p>0", false);
            holds(0, "p<99", true);
            holds(0, "p>99", false);
            holds(0, "p=99", false);
        });
        edge("Terms 1: & binds before |, ! before both, ( ) before all", () -> {
            walkers(1);
            holds(0, "p=0|p=0&p=1", true);
            holds(0, "p=1&p=0|p=0", true);
            holds(0, "(p=0|p=0)&p=1", false);
            holds(0, "!p=0|p=0", true);
            holds(0, "!p=1&p=1", false);
            holds(0, "!(p=1&p=1)", true);
            holds(0, "!(p=0|p=1)", false);
            holds(0, "!!p=0", true);
            holds(0, "!!!!!p=0", false);
            holds(0, "p=1|p=1|p=0", true);
            holds(0, "p=0&p=0&p=1", false);
        });
    }

    private static void sums() {
        edge("Terms 1: without a PARK there are no CLAUSES", () -> {
            walkers(1);
            due("of(0, 8)", x.of(0, 8), 0);
            due("told(1)", x.told(1), 0);
        });
        edge("Terms 1: SUM: stir of 0 and calm of 0 are none", () -> {
            walkers(1);
            park("stir 0 p=0;calm 0 p=0");
            due("of(0, 8)", x.of(0, 8), 0);
        });
        edge("Terms 1: SUM: all together, whose E holds alone", () -> {
            walkers(2);
            park("stir 50 p=0;calm 9 p<9;stir 7 p=1;calm 20 p=1;stir 3 p>0");
            due("of(0, 8)", x.of(0, 8), 41);
            due("of(1, 8)", x.of(1, 8), -19);
        });
        edge("Terms 1: SUM: of each p at each s", () -> {
            park("rain 1;stir 4 p=0;stir 8 p=1;stir 12 p=2;stir 16 p=3;stir 20 p=4;stir 40 s=9;stir 80 s=0");
            due("told(1)", x.told(1), 1);
            walkers(6);
            int[] byNumber = {4, 8, 12, 16, 20, 0};
            for (int step = 0; step <= 20; step++) {
                for (int w = 0; w < 6; w++) {
                    due("of(" + w + ", 8) at " + step, x.of(w, 8), byNumber[w] + (step % 10 == 9 ? 40 : step % 10 == 0 ? 80 : 0));
                }
                x.pass(1);
            }
        });
        edge("Terms 1: SUM may be below 0, as far as a TAPE can go", () -> {
            walkers(1);
            park("calm 99 p=0;".repeat(7) + "calm 99 p=0");
            due("of(0, 8)", x.of(0, 8), -792);
            x.walker(2, 0, 0, 0);
            park("calm 99 p=1;".repeat(7) + "calm 99 p=1");
            due("of(1, 8)", x.of(1, 8), -1584);
        });
        edge("Terms 1: SUM may be as far above 0", () -> {
            x.walker(2, 0, 0, 0);
            park("stir 99 p=0;".repeat(7) + "stir 99 p=0");
            due("of(0, 8)", x.of(0, 8), 1584);
        });
    }

    private static void rain() {
        edge("Terms 1: RAIN: 0 without a PARK, and in one without rain", () -> {
            due("told(1)", x.told(1), 0);
            park("rain 5");
            park("stir 1 p=0");
            due("told(1) behind a newer one", x.told(1), 0);
        });
        edge("Terms 1: RAIN: the last n of rain", () -> {
            park("rain 5;stir 1 p=0;rain 3;calm 2 p=0");
            due("told(1)", x.told(1), 3);
            park("rain 3;rain 0");
            due("told(1), 0", x.told(1), 0);
        });
        edge("Terms 1: it RAINS, if RAIN is above 0", () -> {
            park("rain 0");
            due("told(2) at 0", x.told(2), 0);
            x.pass(1);
            due("told(2) at 1", x.told(2), 0);
        });
        edge("Terms 1: it RAINS, if STEP is a multiple, 0, too", () -> {
            park("rain 7");
            for (int step = 0; step <= 21; step++) {
                due("told(2) at " + step, x.told(2), step % 7 == 0 ? 1 : 0);
                x.pass(1);
            }
        });
        edge("Terms 1: RAIN of 1: it RAINS at every STEP", () -> {
            park("rain 1");
            walkers(1);
            for (int step = 0; step < 4; step++) {
                due("told(2) at " + step, x.told(2), 1);
                x.pass(1);
            }
            due("nobody went", x.of(0, 2), 0);
        });
        edge("Terms 1: RAIN of 99", () -> {
            park("rain 99");
            due("told(2) at 0", x.told(2), 1);
            x.pass(60);
            x.pass(38);
            due("told(2) at 98", x.told(2), 0);
            x.pass(1);
            due("told(2) at 99", x.told(2), 1);
        });
    }
}
