/** The boundary cases of promises 21 to 28 and of what "Terms" 3 says of AHEAD, TURNS, FAR, KNOCK, FARTHEST, SECOND, ALIKE. */
public final class AheadBoundaryTest extends Boundary {
    private static final int[] NOT_AHEAD = {-1, 61, LEAST, MOST};

    public static void main(String[] args) {
        AheadBoundaryTest test = new AheadBoundaryTest();
        test.then();
        test.beyondTheLastTick();
        test.whole();
        test.turnsInTime();
        test.turnsWhereNoneIsInFront();
        test.turnsRefused();
        test.farInTime();
        test.farWhileWhole();
        test.farRefused();
        test.knocksInTime();
        test.knocksByWidth();
        test.knocksRefused();
        test.farthestOfAll();
        test.farthestOfSeveral();
        test.farthestInARoomWithoutRings();
        test.farthestInTime();
        test.farthestRefused();
        test.secondInTime();
        test.secondBehindTicks();
        test.secondAsQuick();
        test.secondTurnsTwice();
        test.secondRefused();
        test.alikeUpToBounds();
        test.alikeInTime();
        test.alikeForAllLess();
        test.alikeInARoomWithoutRings();
        test.alikeRefused();
        test.finish();
    }

    /** RING 0 with PACE 6, and nothing is lost. */
    private static SmokeRings steady() {
        SmokeRings s = lossless();
        plain(s, 0, 1, 20);
        return s;
    }

    /** RING 0 that loses 1 in each TICK. */
    private static SmokeRings fading(int turning) {
        SmokeRings s = new SmokeRings();
        text(s, 1, "1");
        plain(s, 0, 1, turning);
        return s;
    }

    private void then() {
        says("21: AHEAD by n (0 to 60) TICKS: as if so many went by");
        looks("0", AheadBoundaryTest::steady, s -> s.then(0, 0, 0), 0);
        looks("1", AheadBoundaryTest::steady, s -> s.then(1, 0, 0), 6);
        looks("59", AheadBoundaryTest::steady, s -> s.then(59, 0, 0), 354);
        looks("60", AheadBoundaryTest::steady, s -> s.then(60, 0, 0), 360);
        looks("whole ahead of the last", () -> fading(60), s -> s.then(59, 0, 6), 1);
        looks("gone in the last", () -> fading(60), s -> s.then(60, 0, 6), 0);
        int[] due = {6, 0, 1, 20, 20, 4, 1, 6};
        for (int what = 0; what <= 7; what++) {
            due("what " + what, steady().then(1, 0, what), due[what]);
            int asked = what;
            leavesAll("then(60, 2, " + what + ")", Boundary::rich, s -> s.then(60, 2, asked));
        }
        for (int n : new int[] {1, 7, 60}) {
            SmokeRings ahead = rich();
            SmokeRings gone = rich();
            gone.ticks(n);
            for (int ring = 0; ring < 4; ring++) {
                for (int what = 0; what <= 7; what++) {
                    due("as if " + n + " went by", ahead.then(n, ring, what), gone.ofRing(ring, what));
                }
            }
        }
        says("21: BEYOND: n, RING, what.");
        for (int n : NOT_AHEAD) {
            refusedEverywhere("then(" + n + ", 0, 0)", s -> s.then(n, 0, 0), BEYOND);
        }
        for (int ring : new int[] {-1, 8, LEAST, MOST}) {
            refusedEverywhere("then(1, " + ring + ", 0)", s -> s.then(1, ring, 0), BEYOND);
        }
        refused("then(1, 4, 0) of 4", Boundary::rich, s -> s.then(1, 4, 0), BEYOND);
        refused("then(1, 0, 0) of none", SmokeRings::new, s -> s.then(1, 0, 0), BEYOND);
        for (int what : new int[] {-1, 8, LEAST, MOST}) {
            refusedEverywhere("then(1, 0, " + what + ")", s -> s.then(1, 0, what), BEYOND);
        }
        looks("the last of 8", Boundary::full, s -> s.then(60, 7, 0), 160);
    }

    /** Two RINGS of which one goes through the other, a LAW, a SHEET. */
    private static SmokeRings busy(int now) {
        SmokeRings s = new SmokeRings();
        goTo(s, now);
        text(s, 0, "120");
        text(s, 1, "(t=120)*119");
        plain(s, 0, 1, 4);
        s.law(5, 3);
        s.sheet(0, 32, 40);
        s.put(0, 39, 40);
        return s;
    }

    private void beyondTheLastTick() {
        says("21 to 31, 39, 43: AHEAD by n: as if so many went by (beyond 9999, too)");
        Act[] acts = {s -> s.then(60, 0, 0), s -> s.whole(60), s -> s.turns(60), s -> s.far(60, 0), s -> s.knock(60, 0, 60),
            s -> s.farthest(60, 2, 2), s -> s.second(60, 0, 1), s -> s.second(40, 20, 1), s -> s.alike(60, 59), s -> s.off(0),
            s -> s.spun(0), s -> s.made(0), s -> s.film(0), s -> s.check(60)};
        int[] due = {60, 1, 0, 60, 20, 101, 1, 1, NONE, 780, 0, 0, 40, 1};
        for (int i = 0; i < acts.length; i++) {
            due("act " + i + " at 0", acts[i].on(busy(0)), due[i]);
            due("act " + i + " at 9998", acts[i].on(busy(9998)), due[i]);
            due("act " + i + " at 9999", acts[i].on(busy(9999)), due[i]);
        }
        SmokeRings last = busy(9999);
        last.then(60, 0, 0);
        due("NOW", last.count(0), 9999);
    }

    private void whole() {
        says("22: AHEAD by n: how many RINGS are whole.");
        looks("no RINGS", SmokeRings::new, s -> s.whole(60), 0);
        looks("now", () -> fading(60), s -> s.whole(0), 1);
        looks("59", () -> fading(60), s -> s.whole(59), 1);
        looks("60", () -> fading(60), s -> s.whole(60), 0);
        looks("seven of eight", Boundary::full, s -> s.whole(0), 7);
        looks("seven of eight", Boundary::full, s -> s.whole(60), 7);
        looks("TURNING 0 now", () -> fading(0), s -> s.whole(0), 1);
        looks("TURNING 0 in a TICK", () -> fading(0), s -> s.whole(1), 0);
        says("22: BEYOND.");
        for (int n : NOT_AHEAD) {
            refusedEverywhere("whole(" + n + ")", s -> s.whole(n), BEYOND);
        }
    }

    /** RING 0 and RING 1 with such PACES, RING 1 so far from RING 0. */
    private static SmokeRings race(int pace, int otherPace, int from) {
        SmokeRings s = lossless();
        // 6 * (10 * PACE / 3, cut up) / 20
        plain(s, 0, 1, (10 * pace + 2) / 3);
        plain(s, from, 1, (10 * otherPace + 2) / 3);
        return s;
    }

    private void turnsInTime() {
        says("23: TURNS by n: how often FRONT is another one than a TICK ahead, in TICKS 1 to n AHEAD");
        looks("now", () -> race(6, 7, 0), s -> s.turns(0), 0);
        looks("in the first TICK", () -> race(6, 7, 0), s -> s.turns(1), 1);
        looks("like X in TICK 59: the least is in FRONT still", () -> race(6, 7, -59), s -> s.turns(59), 0);
        looks("past it in TICK 60", () -> race(6, 7, -59), s -> s.turns(60), 1);
        looks("too far", () -> race(6, 7, -60), s -> s.turns(60), 0);
        looks("not yet in TICK 59", () -> race(7, 6, 60), s -> s.turns(59), 0);
        looks("like X in TICK 60: the least is in FRONT", () -> race(7, 6, 60), s -> s.turns(60), 1);
        looks("too far", () -> race(7, 6, 61), s -> s.turns(60), 0);
        looks("once alone", () -> race(6, 7, -5), s -> s.turns(60), 1);
        says("23: (each change counts)");
        looks("forth", () -> swaying(), s -> s.turns(1), 1);
        looks("forth and not yet back", () -> swaying(), s -> s.turns(59), 1);
        looks("forth and back", () -> swaying(), s -> s.turns(60), 2);
        SmokeRings many = new SmokeRings();
        text(many, 1, "1");
        for (int i = 0; i < 8; i++) {
            // the later ones are farther and fade sooner
            plain(many, 1000 * i, 1, 8 - i);
        }
        for (int n = 0; n <= 8; n++) {
            due("each is gone in its turn", many.turns(n), Math.min(n, 7));
        }
    }

    /** A STROKE goes 60 at once and then stands, till RING 0 with PACE 1 is there, in TICK 60. */
    private static SmokeRings swaying() {
        SmokeRings s = withTexts("120", "(t=120)*119");
        plain(s, 0, 1, 4);
        s.stroke(1, 1);
        return s;
    }

    private void turnsWhereNoneIsInFront() {
        says("23: (of those by which there is one both times)");
        looks("no RINGS", SmokeRings::new, s -> s.turns(60), 0);
        looks("one alone", AheadBoundaryTest::steady, s -> s.turns(60), 0);
        looks("one that is gone then", () -> fading(3), s -> s.turns(60), 0);
        looks("both are gone at once", () -> {
            SmokeRings s = fading(3);
            plain(s, -100, 1, 3);
            return s;
        }, s -> s.turns(60), 0);
        looks("the one in FRONT is gone", () -> {
            SmokeRings s = fading(3);
            plain(s, -100, 1, 4);
            return s;
        }, s -> s.turns(3), 1);
        looks("then the other one, too", () -> {
            SmokeRings s = fading(3);
            plain(s, -100, 1, 4);
            return s;
        }, s -> s.turns(60), 1);
        looks("one that was gone doesn't count", () -> {
            SmokeRings s = race(6, 7, -5);
            s.end(1);
            return s;
        }, s -> s.turns(60), 0);
    }

    private void turnsRefused() {
        says("23: BEYOND.");
        for (int n : NOT_AHEAD) {
            refusedEverywhere("turns(" + n + ")", s -> s.turns(n), BEYOND);
        }
        leavesAll("turns(60)", Boundary::rich, s -> s.turns(60));
        leavesAll("turns(60)", Boundary::full, s -> s.turns(60));
    }

    private void farInTime() {
        says("24: FAR of a RING by n: the greatest X that it has in TICKS 0 to n AHEAD");
        looks("0", AheadBoundaryTest::steady, s -> s.far(0, 0), 0);
        looks("1", AheadBoundaryTest::steady, s -> s.far(1, 0), 6);
        looks("59", AheadBoundaryTest::steady, s -> s.far(59, 0), 354);
        looks("60", AheadBoundaryTest::steady, s -> s.far(60, 0), 360);
        SmokeRings back = lossless();
        plain(back, -5, -1, 20);
        due("to less X", back.far(60, 0), -5);
        SmokeRings wall = steady();
        wall.wall(11);
        due("at WALL", wall.far(60, 0), 11);
        wall.wall(-1);
        due("back at WALL", wall.far(60, 0), 0);
        SmokeRings held = lossless();
        plain(held, 99990, 1, 999);
        due("held", held.far(60, 0), 99999);
        SmokeRings left = lossless();
        plain(left, -99999, -1, 999);
        due("held", left.far(60, 0), -99999);
    }

    private void farWhileWhole() {
        says("24: (whole ones alone). NONE: it is gone now.");
        SmokeRings s = new SmokeRings();
        text(s, 1, "10");
        plain(s, 0, 1, 20);
        due("TICK 1: X 6; TICK 2: gone at X 9", s.far(60, 0), 6);
        due("where it is then", s.then(60, 0, 0), 9);
        looks("TURNING 0, whole now", () -> fading(0), r -> r.far(60, 0), 0);
        refused("gone now", Boundary::rich, r -> r.far(0, 3), NONE);
        refused("gone now", Boundary::full, r -> r.far(60, 7), NONE);
    }

    private void farRefused() {
        says("24: BEYOND. NONE. (in this order)");
        for (int n : NOT_AHEAD) {
            refusedEverywhere("far(" + n + ", 0)", s -> s.far(n, 0), BEYOND);
            refused("far(" + n + ", 3) of one that is gone", Boundary::rich, s -> s.far(n, 3), BEYOND);
        }
        for (int ring : new int[] {-1, 8, LEAST, MOST}) {
            refusedEverywhere("far(1, " + ring + ")", s -> s.far(1, ring), BEYOND);
        }
        refused("far(1, 4) of 4", Boundary::rich, s -> s.far(1, 4), BEYOND);
        refused("far(1, 0) of none", SmokeRings::new, s -> s.far(1, 0), BEYOND);
        leavesAll("far(60, 2)", Boundary::rich, s -> s.far(60, 2));
    }

    private void knocksInTime() {
        says("25: in the first TICK (0 to n) in which it is whole and its X is that or more. NONE: in no such TICK.");
        looks("in TICK 0", AheadBoundaryTest::steady, s -> s.knock(0, 0, 0), 100);
        refused("1 farther", AheadBoundaryTest::steady, s -> s.knock(0, 0, 1), NONE);
        looks("in TICK 1", AheadBoundaryTest::steady, s -> s.knock(1, 0, 6), 100);
        refused("1 farther", AheadBoundaryTest::steady, s -> s.knock(1, 0, 7), NONE);
        looks("in TICK 60", AheadBoundaryTest::steady, s -> s.knock(60, 0, 360), 100);
        refused("not in 59", AheadBoundaryTest::steady, s -> s.knock(59, 0, 360), NONE);
        refused("1 farther", AheadBoundaryTest::steady, s -> s.knock(60, 0, 361), NONE);
        looks("X -99999", AheadBoundaryTest::steady, s -> s.knock(0, 0, -99999), 100);
        refused("X 99999", AheadBoundaryTest::steady, s -> s.knock(60, 0, 99999), NONE);
        SmokeRings fading = fading(40);
        due("the first such TICK, 0", fading.knock(60, 0, 0), 200);
        due("the first such TICK, 1: X 12, TURNING 39", fading.knock(60, 0, 12), 195);
        due("the first such TICK, 2: X 23, TURNING 38", fading.knock(60, 0, 13), 190);
        SmokeRings back = lossless();
        plain(back, 10, -1, 20);
        due("to less X", back.knock(60, 0, 10), 100);
        due("to less X", back.knock(60, 0, 11), NONE);
        SmokeRings most = lossless();
        plain(most, 99998, 1, 20);
        due("held at 99999", most.knock(1, 0, 99999), 100);
        says("25: (it is whole)");
        SmokeRings dying = new SmokeRings();
        text(dying, 1, "10");
        plain(dying, 0, 1, 20);
        due("X 6 in TICK 1", dying.knock(60, 0, 6), 50);
        due("X 9 in TICK 2, gone", dying.knock(60, 0, 7), NONE);
        refused("gone now", Boundary::rich, s -> s.knock(60, 3, -99999), NONE);
    }

    private static int knock(int turning, int wide) {
        SmokeRings s = new SmokeRings();
        s.ring(xy(0, 0), 1, turning, 100 * wide + 1);
        return s.knock(0, 0, 0);
    }

    private void knocksByWidth() {
        says("25: KNOCK of a RING: TURNING times 100 by WIDE");
        due("the most", knock(999, 1), 99900);
        due("TURNING 0", knock(0, 1), 0);
        due("less than 1", knock(1, 200), 0);
        due("just 1", knock(2, 200), 1);
        due("cut", knock(999, 200), 499);
        due("cut", knock(1, 3), 33);
    }

    private void knocksRefused() {
        says("25: BEYOND: n, RING, X.");
        for (int n : NOT_AHEAD) {
            refusedEverywhere("knock(" + n + ", 0, 0)", s -> s.knock(n, 0, 0), BEYOND);
        }
        for (int ring : new int[] {-1, 8, LEAST, MOST}) {
            refusedEverywhere("knock(1, " + ring + ", 0)", s -> s.knock(1, ring, 0), BEYOND);
        }
        refused("knock(1, 4, 0) of 4", Boundary::rich, s -> s.knock(1, 4, 0), BEYOND);
        refused("knock(1, 0, 0) of none", SmokeRings::new, s -> s.knock(1, 0, 0), BEYOND);
        for (int x : new int[] {-100000, 100000, LEAST, MOST}) {
            refusedEverywhere("knock(1, 0, " + x + ")", s -> s.knock(1, 0, x), BEYOND);
            refused("knock(1, 3, " + x + ") of one that is gone", Boundary::rich, s -> s.knock(1, 3, x), BEYOND);
        }
        leavesAll("knock(60, 2, 99999)", Boundary::rich, s -> s.knock(60, 2, 99999));
        leavesAll("knock(60, 2, -99999)", Boundary::rich, s -> s.knock(60, 2, -99999));
    }

    private void farthestOfAll() {
        says("26: FARTHEST (n 0 to 60, a 1 to 40, b 1 to 20): 100 * how long, and how quick");
        Maker corner = () -> withTexts("(l=40)*(q=20)*9", "0");
        looks("the longest, quickest", corner, s -> s.farthest(60, 40, 20), 4020);
        looks("how long up to 39", corner, s -> s.farthest(60, 39, 20), 101);
        looks("how quick up to 19", corner, s -> s.farthest(60, 40, 19), 101);
        looks("one alone", corner, s -> s.farthest(60, 1, 1), 101);
        looks("one alone", corner, s -> s.farthest(0, 1, 1), 101);
        looks("the shortest", () -> withTexts("(l=1)*9", "0"), s -> s.farthest(1, 40, 20), 101);
        looks("the longest", () -> withTexts("(l=40)*9", "0"), s -> s.farthest(1, 40, 20), 4001);
        looks("the quickest", () -> withTexts("(q=20)*9", "0"), s -> s.farthest(1, 40, 20), 120);
    }

    private void farthestOfSeveral() {
        says("26: of several the shortest, then the least quick");
        // WIDE 10, THICK 3: PACE is TURNING by 2
        looks("like TURNINGS", () -> withTexts("9", "0"), s -> s.farthest(60, 40, 20), 101);
        looks("like PACES", () -> withTexts("(l=7)*(q>4)*(8+q%2)", "0"), s -> s.farthest(60, 40, 20), 705);
        looks("shortest ahead of least quick", () -> withTexts("(l*q=12)*9", "0"), s -> s.farthest(60, 40, 20), 112);
        looks("none at all", () -> withTexts("0", "0"), s -> s.farthest(60, 40, 20), 101);
        looks("as far as WALL", () -> {
            SmokeRings s = withTexts("l+q", "0");
            s.wall(12);
            return s;
        }, s -> s.farthest(4, 40, 20), 105);
    }

    private void farthestInARoomWithoutRings() {
        says("26: each alone in a room without RINGS (LAWS, WALL, TEXTS as now)");
        for (int rings : new int[] {1, 8}) {
            looks(rings + " RINGS that would be joined", () -> {
                SmokeRings s = withTexts("l*q", "0");
                s.law(2, 99);
                for (int i = 0; i < rings; i++) {
                    plain(s, i == 0 ? 0 : 5000 + 200 * i, 1, 1);
                }
                return s;
            }, s -> s.farthest(60, 3, 3), 303);
        }
        // near WALL 1 gets 21 wide and is lost then, 2 gets 18 wide and goes on
        Maker spreading = () -> {
            SmokeRings s = withTexts("(q=1)*9+(q=2)*7", "(w>20)*t");
            s.law(5, 25);
            s.wall(10);
            return s;
        };
        looks("LAWS that are on", spreading, s -> s.farthest(2, 1, 2), 102);
        looks("LAWS that are off", () -> {
            SmokeRings s = spreading.make();
            s.turn(0, 0);
            return s;
        }, s -> s.farthest(2, 1, 2), 101);
        looks("WALL behind", () -> {
            SmokeRings s = withTexts("l*q", "0");
            s.wall(-99999);
            return s;
        }, s -> s.farthest(60, 40, 20), 101);
        looks("HOLE 1: THICK 1, PACE 3 * TURNING", () -> {
            SmokeRings s = withTexts("(q=2)", "0");
            s.hole(1);
            return s;
        }, s -> s.farthest(1, 1, 2), 102);
        looks("HOLE 10: PACE 0", () -> withTexts("(q=2)", "0"), s -> s.farthest(60, 1, 2), 101);
        leavesAll("farthest", Boundary::rich, s -> s.farthest(60, 3, 3));
        leavesAll("farthest", Boundary::full, s -> s.farthest(60, 3, 3));
    }

    private void farthestInTime() {
        says("26: that of which FAR is greatest by n (0 to 60)");
        // 1 goes 60 at once and then 1 in each TICK, 2 goes 2 in each
        Maker race = () -> withTexts("(q=1)*120+(q=2)*4", "(t=120)*118");
        looks("like far in TICK 59", race, s -> s.farthest(59, 1, 2), 101);
        looks("TICK 60", race, s -> s.farthest(60, 1, 2), 102);
        looks("TICK 0", race, s -> s.farthest(0, 1, 2), 101);
        // 2 is gone in the first TICK, though its X is greater then
        looks("whole ones alone", () -> withTexts("q*20", "(t=40)*40"), s -> s.farthest(60, 1, 2), 101);
    }

    private void farthestRefused() {
        says("26: BEYOND.");
        for (int n : NOT_AHEAD) {
            refusedEverywhere("farthest(" + n + ", 1, 1)", s -> s.farthest(n, 1, 1), BEYOND);
        }
        for (int a : new int[] {0, 41, -1, LEAST, MOST}) {
            refusedEverywhere("farthest(1, " + a + ", 1)", s -> s.farthest(1, a, 1), BEYOND);
        }
        for (int b : new int[] {0, 21, -1, LEAST, MOST}) {
            refusedEverywhere("farthest(1, 1, " + b + ")", s -> s.farthest(1, 1, b), BEYOND);
        }
    }

    /** RING 0 with PACE 1; some STROKES (of TURNING 120) go 60 at once and stand then, others do nothing. */
    private static SmokeRings overtaken(String whichStrokes) {
        SmokeRings s = withTexts("(" + whichStrokes + ")*120", "(t=120)*119");
        plain(s, 0, 1, 4);
        return s;
    }

    private void secondInTime() {
        says("27: the least how quick with which TURNS by n (0 to 60) from then on are 2 or more. NONE.");
        looks("in TICK 60", () -> overtaken("1"), s -> s.second(60, 0, 1), 1);
        refused("not in TICK 59", () -> overtaken("1"), s -> s.second(59, 0, 1), NONE);
        refused("nor now", () -> overtaken("1"), s -> s.second(0, 0, 1), NONE);
        refused("nor in the first", () -> overtaken("1"), s -> s.second(1, 0, 1), NONE);
        refused("no RINGS", SmokeRings::new, s -> s.second(60, 0, 1), NONE);
        refused("no RINGS", SmokeRings::new, s -> s.second(60, 20, 400), NONE);
    }

    private void secondBehindTicks() {
        says("27: a STROKE .. is made behind d (0 to 20) TICKS from now");
        looks("20, when X is 20", () -> overtaken("1"), s -> s.second(40, 20, 1), 1);
        refused("TURNS by n from then on", () -> overtaken("1"), s -> s.second(39, 20, 1), NONE);
        refused("19, when X is 19", () -> overtaken("1"), s -> s.second(40, 19, 1), NONE);
        looks("19, when X is 19", () -> overtaken("1"), s -> s.second(41, 19, 1), 1);
        looks("1, when X is 1", () -> overtaken("1"), s -> s.second(59, 1, 1), 1);
        SmokeRings later = overtaken("1");
        later.ticks(20);
        due("from NOW 20", later.second(40, 0, 1), 1);
        due("from NOW 20", later.second(39, 0, 1), NONE);
        SmokeRings fading = withTexts("120", "(t=120)*119+(t<21)");
        plain(fading, 0, 1, 20);
        due("who is gone by then is passed by no one", fading.second(60, 20, 1), NONE);
    }

    private void secondAsQuick() {
        says("27: a STROKE as long as l (1 to 400): the least how quick (1 to 99)");
        looks("1 quick", () -> overtaken("q=1"), s -> s.second(60, 0, 1), 1);
        looks("99 quick", () -> overtaken("q=99"), s -> s.second(60, 0, 1), 99);
        looks("the least of several", () -> overtaken("q>41"), s -> s.second(60, 0, 1), 42);
        refused("100 quick", () -> overtaken("q=100"), s -> s.second(60, 0, 1), NONE);
        refused("0 quick", () -> overtaken("q=0"), s -> s.second(60, 0, 1), NONE);
        looks("1 long", () -> overtaken("l=1"), s -> s.second(60, 0, 1), 1);
        refused("2 long", () -> overtaken("l=1"), s -> s.second(60, 0, 2), NONE);
        looks("400 long", () -> overtaken("l=400"), s -> s.second(60, 0, 400), 1);
        refused("399 long", () -> overtaken("l=400"), s -> s.second(60, 0, 399), NONE);
        // with HOLE 12 a STROKE is 12 wide, 3 thick: it goes 120 * 5 / 12, which is 50
        Maker wider = () -> {
            SmokeRings s = overtaken("h=12");
            s.hole(12);
            return s;
        };
        looks("HOLE as it is now", wider, s -> s.second(50, 0, 1), 1);
        refused("HOLE as it is now", wider, s -> s.second(49, 0, 1), NONE);
    }

    private void secondTurnsTwice() {
        says("27: TURNS .. are 2 or more");
        Maker once = () -> {
            SmokeRings s = withTexts("120", "0");
            plain(s, 0, 1, 4);
            return s;
        };
        refused("once is not enough", once, s -> s.second(60, 0, 1), NONE);
        Maker thrice = () -> {
            SmokeRings s = overtaken("1");
            plain(s, -1000, 1, 4);
            return s;
        };
        looks("a third RING far behind doesn't matter", thrice, s -> s.second(60, 0, 1), 1);
    }

    private void secondRefused() {
        says("27: FULL: there are 8 RINGS.");
        Maker seven = () -> {
            SmokeRings s = overtaken("1");
            for (int i = 0; i < 6; i++) {
                plain(s, -5000, 1, 4);
            }
            return s;
        };
        Maker eight = () -> {
            SmokeRings s = seven.make();
            plain(s, -5000, 1, 4);
            return s;
        };
        looks("7 RINGS", seven, s -> s.second(60, 0, 1), 1);
        refused("8 RINGS", eight, s -> s.second(60, 0, 1), FULL);
        refused("8 RINGS, one of them gone", () -> {
            SmokeRings s = eight.make();
            s.end(3);
            return s;
        }, s -> s.second(60, 0, 1), FULL);
        refused("8 RINGS, FULL is asked ahead of NONE", Boundary::full, s -> s.second(0, 0, 1), FULL);
        says("27: BEYOND. FULL. NONE. (in this order)");
        for (int n : NOT_AHEAD) {
            refusedEverywhere("second(" + n + ", 0, 1)", s -> s.second(n, 0, 1), BEYOND);
        }
        for (int d : new int[] {-1, 21, LEAST, MOST}) {
            refusedEverywhere("second(1, " + d + ", 1)", s -> s.second(1, d, 1), BEYOND);
        }
        for (int l : new int[] {0, 401, -1, LEAST, MOST}) {
            refusedEverywhere("second(1, 0, " + l + ")", s -> s.second(1, 0, l), BEYOND);
        }
        leavesAll("second", Boundary::rich, s -> s.second(60, 20, 400));
    }

    /** RING 0 is 90 far from WALL and RING 1 110 far, so that RING 0 spreads and is gone in TICK 2, ahead of RING 1. */
    private static SmokeRings onlyTheFirstIsLost() {
        SmokeRings s = new SmokeRings();
        s.law(5, 99);
        s.wall(90);
        text(s, 1, "(w>20)*999");
        return s;
    }

    private void alikeUpToBounds() {
        says("28: ALIKE (v 0 to 999): the greatest k (0 to 99, v at most)");
        Maker lost = AheadBoundaryTest::onlyTheFirstIsLost;
        looks("v 999: 99 at most", lost, s -> s.alike(2, 999), 99);
        looks("v 101: 99 at most", lost, s -> s.alike(2, 101), 99);
        looks("v 100: with k 99 RING 1 has TURNING 1", lost, s -> s.alike(2, 100), 99);
        looks("v 99: with k 99 RING 1 has TURNING 0", lost, s -> s.alike(2, 99), 98);
        looks("v 5", lost, s -> s.alike(2, 5), 4);
        looks("v 2", lost, s -> s.alike(2, 2), 1);
        says("28: NONE: not even with k 0.");
        refused("v 1: 99 / 100 spreads nothing", lost, s -> s.alike(60, 1), NONE);
        refused("v 0", lost, s -> s.alike(60, 0), NONE);
        refused("without LAWS", SmokeRings::new, s -> s.alike(60, 999), NONE);
        refused("v 0", SmokeRings::new, s -> s.alike(0, 0), NONE);
        refused("v 999, n 0", lost, s -> s.alike(0, 999), NONE);
        says("28: (k 0 is one, too)");
        looks("only k 0", () -> {
            SmokeRings s = new SmokeRings();
            s.law(5, 99);
            s.wall(90);
            text(s, 1, "(w>20)*999+(t<40)*999");
            return s;
        }, s -> s.alike(2, 40), 0);
    }

    private void alikeInTime() {
        says("28: TURNS by n are 1 or more (n 0 to 60)");
        refused("not in TICK 1", AheadBoundaryTest::onlyTheFirstIsLost, s -> s.alike(1, 50), NONE);
        looks("in TICK 2", AheadBoundaryTest::onlyTheFirstIsLost, s -> s.alike(2, 50), 49);
        // both stand at WALL; RING 0, which is wider, loses 1 in each TICK but the first
        Maker slow = () -> {
            SmokeRings s = new SmokeRings();
            s.law(0, 99);
            s.wall(-20);
            text(s, 1, "w>20");
            return s;
        };
        looks("in TICK 60", slow, s -> s.alike(60, 59), 58);
        refused("not in TICK 59", slow, s -> s.alike(59, 59), NONE);
        refused("not in TICK 60", slow, s -> s.alike(60, 60), NONE);
    }

    private void alikeForAllLess() {
        says("28: such that for it and all less TURNS by n are 1 or more");
        Maker gap = () -> {
            SmokeRings s = new SmokeRings();
            s.law(0, 99);
            s.wall(-20);
            text(s, 1, "(w>20)+(t=50)*50");
            return s;
        };
        looks("with k 9 RING 1 is gone at once", gap, s -> s.alike(60, 59), 8);
        refused("with k 0 it is", gap, s -> s.alike(60, 50), NONE);
    }

    private void alikeInARoomWithoutRings() {
        says("28: in a room without RINGS (else as now) there are RING 0 at X 0 .. and RING 1 at X -20");
        looks("eight RINGS are no lack", () -> {
            SmokeRings s = onlyTheFirstIsLost();
            for (int i = 0; i < 8; i++) {
                plain(s, 5000, 1, 100);
            }
            return s;
        }, s -> s.alike(2, 50), 49);
        looks("LAWS that are off are off", () -> {
            SmokeRings s = onlyTheFirstIsLost();
            s.law(2, 99);
            s.turn(1, 0);
            return s;
        }, s -> s.alike(2, 50), 49);
        refused("JOINING: RING 1 is gone at once", () -> {
            SmokeRings s = onlyTheFirstIsLost();
            s.law(2, 20);
            return s;
        }, s -> s.alike(2, 50), NONE);
        looks("JOINING of m 19: their GAP is 20", () -> {
            SmokeRings s = onlyTheFirstIsLost();
            s.law(2, 19);
            return s;
        }, s -> s.alike(2, 9), 8);
        says("28: both WAY 1, Y 0, WIDE 20, THICK 4");
        Maker exact = () -> {
            SmokeRings s = new SmokeRings();
            s.law(5, 99);
            s.wall(90);
            text(s, 1, "!(w=20)*999+!(k=4)*999");
            return s;
        };
        refused("RING 0 is not lost at once", exact, s -> s.alike(1, 50), NONE);
        looks("nor is RING 1", exact, s -> s.alike(2, 50), 49);
        // RING 0 is lifted by half of 45 * v / 100 and 200 wide then, and is torn if it is NEAR RING 1, which is 20 wide
        Maker torn = () -> {
            SmokeRings s = lossless();
            s.law(6, 45);
            s.law(4, 0);
            s.wall(90);
            return s;
        };
        looks("219 apart in Y", torn, s -> s.alike(2, 977), 99);
        refused("220 apart in Y", torn, s -> s.alike(2, 978), NONE);
        looks("RING 0 is 99 far from WALL, RING 1 119", () -> wallAt(99), s -> s.alike(2, 50), 49);
        refused("RING 0 is 100 far from WALL", () -> wallAt(100), s -> s.alike(1, 50), NONE);
        refused("RING 1 is 99 far from WALL", () -> wallAt(79), s -> s.alike(2, 50), NONE);
        looks("RING 1 is 100 far from WALL", () -> wallAt(80), s -> s.alike(2, 50), 49);
        leavesAll("alike", Boundary::rich, s -> s.alike(60, 999));
        leavesAll("alike", Boundary::full, s -> s.alike(60, 999));
    }

    private static SmokeRings wallAt(int x) {
        SmokeRings s = onlyTheFirstIsLost();
        s.wall(x);
        return s;
    }

    private void alikeRefused() {
        says("28: BEYOND.");
        for (int n : NOT_AHEAD) {
            refusedEverywhere("alike(" + n + ", 5)", s -> s.alike(n, 5), BEYOND);
        }
        for (int v : new int[] {-1, 1000, LEAST, MOST}) {
            refusedEverywhere("alike(1, " + v + ")", s -> s.alike(1, v), BEYOND);
        }
    }
}
