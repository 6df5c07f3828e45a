/** The boundary cases of promises 1 to 11 and of what "Terms" 1 says of RINGS and LAWS. */
public final class RingsLawsBoundaryTest extends Boundary {
    public static void main(String[] args) {
        RingsLawsBoundaryTest test = new RingsLawsBoundaryTest();
        test.newObjects();
        test.boundsOfRings();
        test.fullOfRings();
        test.paces();
        test.ringsAsked();
        test.ringsEnded();
        test.walls();
        test.boundsOfLaws();
        test.lawsAsked();
        test.lawsAsKinds();
        test.lawsTurned();
        test.whoIsNear();
        test.whoIsBehind();
        test.gaps();
        test.pairsRefused();
        test.widensOfLaw();
        test.widensOfThrough();
        test.widensOfHeadlong();
        test.spreads();
        test.lifts();
        test.endsOfJoining();
        test.endsOfTorn();
        test.doesRefused();
        test.finish();
    }

    private void newObjects() {
        says("1: All as at first; no RINGS, LAWS.");
        SmokeRings s = new SmokeRings();
        due("NOW", s.count(0), 0);
        due("RINGS", s.count(1), 0);
        due("whole RINGS", s.count(2), 0);
        due("LAWS", s.count(3), 0);
        due("HOLE", s.count(4), 10);
        due("bytes", s.count(5), 0);
        due("numbers that wait", s.count(6), 0);
        due("BODIES", s.count(7), 0);
        due("z", s.count(8), 1);
        due("WALL", s.wall(0), 99999);
        for (int sheet = 0; sheet < 4; sheet++) {
            due("a SHEET is missing", s.put(sheet, 0, 0), NONE);
        }
        due("no IMAGE", s.restore(), NONE);
        due("no TEXT of STROKES", s.gives(0, 8, 3, 2), 6);
        due("no TEXT of LOSSES", s.gives(1, 50, 100, 0), 2);
        due("what was told ahead of that", s.told(2), 5);
        Seen first = new Seen(new SmokeRings());
        due("one that is full", full().count(1), 8);
        same("a new one beside one that is full", new Seen(new SmokeRings()), first);
    }

    private void boundsOfRings() {
        says("2: xy: 2000 * (X and 100000), and Y and 1000; X (-99999 to 99999), Y (-999 to 999)");
        int[][] places = {{-99999, 0}, {99999, 0}, {0, -999}, {0, 999}, {-99999, -999}, {99999, 999}, {-1, 1}, {0, 0}};
        for (int[] place : places) {
            SmokeRings s = new SmokeRings();
            due("ring", s.ring(xy(place[0], place[1]), 1, 5, 707), 0);
            traits("a place", s, 0, place[0], place[1], 1, 5, 7, 7, 1);
        }
        int[] beyond = {xy(-100000, 0), xy(-100000, 999), xy(100000, 0), xy(100000, -999), xy(0, -1000), xy(99999, -1000),
            xy(-100001, 0), -1, -2000, -xy(0, 0), LEAST, MOST};
        for (int at : beyond) {
            refused("ring(" + at + ", 1, 5, 707)", Boundary::rich, s -> s.ring(at, 1, 5, 707), BEYOND);
        }
        says("2: way: 1, -1");
        for (int way : new int[] {1, -1}) {
            SmokeRings s = new SmokeRings();
            due("ring", s.ring(xy(3, 4), way, 5, 707), 0);
            traits("a way", s, 0, 3, 4, way, 5, 7, 7, 1);
        }
        for (int way : new int[] {0, 2, -2, LEAST, MOST}) {
            refused("way " + way, Boundary::rich, s -> s.ring(xy(3, 4), way, 5, 707), BEYOND);
        }
        says("2: TURNING (0 to 999)");
        for (int turning : new int[] {0, 1, 998, 999}) {
            SmokeRings s = new SmokeRings();
            due("ring", s.ring(xy(3, 4), 1, turning, 707), 0);
            traits("a turning", s, 0, 3, 4, 1, turning, 7, 7, 1);
        }
        for (int turning : new int[] {-1, 1000, LEAST, MOST}) {
            refused("turning " + turning, Boundary::rich, s -> s.ring(xy(3, 4), 1, turning, 707), BEYOND);
        }
        says("2: wk: 100 * WIDE, and THICK; WIDE (1 to 200), THICK (1 to 50)");
        for (int[] wk : new int[][] {{1, 1}, {1, 50}, {200, 1}, {200, 50}, {199, 49}}) {
            SmokeRings s = new SmokeRings();
            due("ring", s.ring(xy(3, 4), 1, 5, 100 * wk[0] + wk[1]), 0);
            traits("a width", s, 0, 3, 4, 1, 5, wk[0], wk[1], 1);
        }
        for (int wk : new int[] {0, 1, 50, 99, 100, 151, 199, 2000, 2051, 20000, 20051, 20101, 20150, 99901, -1, -101, -2004, LEAST,
            MOST}) {
            refused("wk " + wk, Boundary::rich, s -> s.ring(xy(3, 4), 1, 5, wk), BEYOND);
        }
    }

    private void fullOfRings() {
        says("2: RINGS 0, 1, .. (at most 8). FULL.");
        SmokeRings s = new SmokeRings();
        for (int i = 0; i < 8; i++) {
            due("ring", plain(s, i, 1, i), i);
            due("RINGS", s.count(1), i + 1);
        }
        due("the last", s.ofRing(7, 0), 7);
        refused("a ninth", () -> withRings(8), r -> plain(r, 0, 1, 1), FULL);
        refused("a ninth", Boundary::full, r -> plain(r, 0, 1, 1), FULL);
        refused("a ninth where all are gone", () -> {
            SmokeRings gone = withRings(8);
            for (int i = 0; i < 8; i++) {
                gone.end(i);
            }
            return gone;
        }, r -> plain(r, 0, 1, 1), FULL);
        says("2: BEYOND. FULL. (in this order)");
        refused("a ninth, beyond", Boundary::full, r -> r.ring(xy(100000, 0), 1, 1, 707), BEYOND);
        refused("a ninth, way 0", Boundary::full, r -> r.ring(xy(0, 0), 0, 1, 707), BEYOND);
        refused("a ninth, turning 1000", Boundary::full, r -> r.ring(xy(0, 0), 1, 1000, 707), BEYOND);
        refused("a ninth, thick 51", Boundary::full, r -> r.ring(xy(0, 0), 1, 1, 751), BEYOND);
    }

    private void paces() {
        says("3: PACE: TURNING times (3 and how often WIDE can be halved (cut) till it is no more than THICK), by WIDE");
        int[][] cases = {
            // WIDE, THICK, TURNING, PACE
            {1, 1, 999, 2997}, {1, 50, 999, 2997}, {1, 1, 0, 0}, {50, 50, 50, 3}, {49, 50, 49, 3}, {51, 50, 51, 4},
            {100, 50, 100, 4}, {101, 50, 101, 4}, {102, 50, 102, 5}, {2, 1, 2, 4}, {3, 1, 3, 4}, {4, 1, 4, 5},
            {200, 1, 20, 1}, {200, 1, 19, 0}, {200, 1, 999, 49}, {200, 50, 40, 1}, {200, 50, 39, 0}, {200, 49, 100, 3},
            {20, 4, 10, 3}, {20, 4, 9, 2}, {20, 5, 4, 1}, {20, 5, 3, 0}, {9, 4, 9, 4}, {10, 4, 10, 5}};
        for (int[] c : cases) {
            SmokeRings s = new SmokeRings();
            s.ring(xy(0, 0), 1, c[2], 100 * c[0] + c[1]);
            due("PACE of WIDE " + c[0] + ", THICK " + c[1] + ", TURNING " + c[2], s.ofRing(0, 7), c[3]);
        }
        SmokeRings back = new SmokeRings();
        plain(back, 0, -1, 10);
        due("PACE to less X has no sign", back.ofRing(0, 7), 3);
    }

    private void ringsAsked() {
        says("3: Of a RING: 0 X .. 7 PACE. BEYOND.");
        looks("the last ring's X", Boundary::full, s -> s.ofRing(7, 0), 160);
        looks("the first ring's PACE", Boundary::full, s -> s.ofRing(0, 7), 0);
        looks("the last ring is gone", Boundary::full, s -> s.ofRing(7, 6), 0);
        for (int ring : new int[] {-1, 4, 8, LEAST, MOST}) {
            refused("ofRing(" + ring + ", 0)", Boundary::rich, s -> s.ofRing(ring, 0), BEYOND);
        }
        refused("ofRing(8, 0)", Boundary::full, s -> s.ofRing(8, 0), BEYOND);
        refused("ofRing(0, 0)", SmokeRings::new, s -> s.ofRing(0, 0), BEYOND);
        for (int what : new int[] {-1, 8, LEAST, MOST}) {
            refusedEverywhere("ofRing(0, " + what + ")", s -> s.ofRing(0, what), BEYOND);
        }
    }

    private void ringsEnded() {
        says("4: A RING is gone: 1; 0 if it was.");
        SmokeRings s = withRings(8);
        due("the last", s.end(7), 1);
        due("it is gone", s.ofRing(7, 6), 0);
        due("the others aren't", s.count(2), 7);
        due("the first", s.end(0), 1);
        due("how many there are", s.count(1), 8);
        traits("as it was last", s, 0, 0, 0, 1, 2, 20, 4, 0, 0);
        looks("it was", Boundary::rich, r -> r.end(3), 0);
        says("4: BEYOND.");
        for (int ring : new int[] {-1, 8, LEAST, MOST}) {
            refusedEverywhere("end(" + ring + ")", r -> r.end(ring), BEYOND);
        }
        refused("end(4) of 4", Boundary::rich, r -> r.end(4), BEYOND);
        refused("end(0) of none", SmokeRings::new, r -> r.end(0), BEYOND);
    }

    private void walls() {
        says("5: WALL becomes so: what it was. BEYOND: not -99999 to 99999.");
        SmokeRings s = new SmokeRings();
        due("at first", s.wall(-99999), 99999);
        due("the least", s.wall(99999), -99999);
        due("the most", s.wall(0), 99999);
        due("none", s.wall(0), 0);
        for (int x : new int[] {-100000, 100000, LEAST, MOST}) {
            refusedEverywhere("wall(" + x + ")", r -> r.wall(x), BEYOND);
        }
    }

    private void boundsOfLaws() {
        says("6: LAWS of KINDS 0 to 6, each with a number m (0 to 99), on (at first)");
        for (int kind = 0; kind <= 6; kind++) {
            for (int m : new int[] {0, 99}) {
                SmokeRings s = new SmokeRings();
                due("law", s.law(kind, m), 0);
                due("KIND", s.ofLaw(0, 0), kind);
                due("m", s.ofLaw(0, 1), m);
                due("on", s.ofLaw(0, 2), 1);
            }
        }
        for (int kind : new int[] {-1, 7, LEAST, MOST}) {
            refusedEverywhere("law(" + kind + ", 5)", s -> s.law(kind, 5), BEYOND);
        }
        for (int m : new int[] {-1, 100, LEAST, MOST}) {
            refusedEverywhere("law(1, " + m + ")", s -> s.law(1, m), BEYOND);
        }
        says("6: LAWS 0, 1, .. (at most 6). BEYOND. FULL.");
        SmokeRings s = new SmokeRings();
        for (int i = 0; i < 6; i++) {
            due("law", s.law(6 - i, 90 + i), i);
            due("LAWS", s.count(3), i + 1);
        }
        due("the last", s.ofLaw(5, 1), 95);
        refused("a seventh", Boundary::full, r -> r.law(0, 0), FULL);
        refused("a seventh of KIND 7", Boundary::full, r -> r.law(7, 0), BEYOND);
        refused("a seventh of m 100", Boundary::full, r -> r.law(0, 100), BEYOND);
    }

    private void lawsAsked() {
        says("7: Of a LAW: 0 KIND, 1 m, 2 1 if it is on, else 0. BEYOND.");
        looks("KIND of the last", Boundary::full, s -> s.ofLaw(5, 0), 5);
        looks("m of the first", Boundary::full, s -> s.ofLaw(0, 1), 1);
        looks("on", Boundary::full, s -> s.ofLaw(4, 2), 1);
        looks("off", Boundary::full, s -> s.ofLaw(5, 2), 0);
        for (int law : new int[] {-1, 6, LEAST, MOST}) {
            refusedEverywhere("ofLaw(" + law + ", 0)", s -> s.ofLaw(law, 0), BEYOND);
        }
        refused("ofLaw(3, 0) of 3", Boundary::rich, s -> s.ofLaw(3, 0), BEYOND);
        refused("ofLaw(0, 0) of none", SmokeRings::new, s -> s.ofLaw(0, 0), BEYOND);
        for (int what : new int[] {-1, 3, LEAST, MOST}) {
            refusedEverywhere("ofLaw(0, " + what + ")", s -> s.ofLaw(0, what), BEYOND);
        }
    }

    private void lawsAsKinds() {
        says("8: A LAW as one of a KIND: m. KIND: it isn't of that KIND, nor of one under it.");
        int[] above = {-1, 0, 0, 0, 3, 0, 5};
        for (int kind = 0; kind <= 6; kind++) {
            for (int as = 0; as <= 6; as++) {
                int mine = kind;
                int asked = as;
                boolean isSo = as == kind || as == above[kind] || as == 0;
                Maker one = () -> {
                    SmokeRings s = new SmokeRings();
                    s.law(mine, 10 * mine);
                    return s;
                };
                if (isSo) {
                    looks("KIND " + kind + " as " + as, one, s -> s.as(0, asked), 10 * kind);
                } else {
                    refused("KIND " + kind + " as " + as, one, s -> s.as(0, asked), KIND);
                }
            }
        }
        says("8: BEYOND. KIND. (in this order)");
        for (int kind : new int[] {-1, 7, LEAST, MOST}) {
            refusedEverywhere("as(0, " + kind + ")", s -> s.as(0, kind), BEYOND);
        }
        for (int law : new int[] {-1, 6, LEAST, MOST}) {
            refusedEverywhere("as(" + law + ", 0)", s -> s.as(law, 0), BEYOND);
        }
        refused("as(3, 0) of 3", Boundary::rich, s -> s.as(3, 0), BEYOND);
    }

    private void lawsTurned() {
        says("9: A LAW is on (1), off (0): what it was. BEYOND.");
        SmokeRings s = new SmokeRings();
        for (int i = 0; i < 6; i++) {
            s.law(0, 0);
        }
        due("the last, off", s.turn(5, 0), 1);
        due("off", s.ofLaw(5, 2), 0);
        due("again", s.turn(5, 0), 0);
        due("on", s.turn(5, 1), 0);
        due("again", s.turn(5, 1), 1);
        due("the first, off", s.turn(0, 0), 1);
        for (int i = 1; i < 6; i++) {
            due("the others stay on", s.ofLaw(i, 2), 1);
        }
        for (int on : new int[] {-1, 2, LEAST, MOST}) {
            refusedEverywhere("turn(0, " + on + ")", r -> r.turn(0, on), BEYOND);
        }
        for (int law : new int[] {-1, 6, 32, LEAST, MOST}) {
            refusedEverywhere("turn(" + law + ", 0)", r -> r.turn(law, 0), BEYOND);
        }
        refused("turn(3, 0) of 3", Boundary::rich, r -> r.turn(3, 0), BEYOND);
    }

    private static SmokeRings two(int y, int wide, int otherY, int otherWide) {
        SmokeRings s = new SmokeRings();
        s.ring(xy(0, y), 1, 5, 100 * wide + 1);
        s.ring(xy(0, otherY), 1, 5, 100 * otherWide + 1);
        return s;
    }

    private void whoIsNear() {
        says("11: NEAR are two RINGS, if they are apart in Y by less than their WIDES together.");
        due("1 apart, 2 wide", two(0, 1, 1, 1).pair(0, 1, 1), 1);
        due("2 apart, 2 wide", two(0, 1, 2, 1).pair(0, 1, 1), 0);
        due("2 apart, 2 wide, the other way", two(2, 1, 0, 1).pair(0, 1, 1), 0);
        due("1 apart, 2 wide, the other way", two(0, 1, -1, 1).pair(1, 0, 1), 1);
        due("399 apart, 400 wide", two(-200, 200, 199, 200).pair(0, 1, 1), 1);
        due("400 apart, 400 wide", two(-200, 200, 200, 200).pair(0, 1, 1), 0);
        due("as far apart as can be", two(-999, 200, 999, 200).pair(1, 0, 1), 0);
        due("0 apart", two(999, 1, 999, 1).pair(0, 1, 1), 1);
        SmokeRings far = new SmokeRings();
        far.ring(xy(-99999, 0), 1, 5, 101);
        far.ring(xy(99999, 0), -1, 5, 101);
        due("X and WAY don't matter", far.pair(0, 1, 1), 1);
    }

    private void whoIsBehind() {
        says("11: One is BEHIND another one, if it goes the same WAY, and is less far that WAY (of like X the greater number)");
        for (int way : new int[] {1, -1}) {
            SmokeRings s = new SmokeRings();
            plain(s, 10, way, 5);
            plain(s, 10, way, 5);
            plain(s, 10 - way, way, 5);
            plain(s, 10 + way, way, 5);
            plain(s, 10 - way, -way, 5);
            plain(s, 10, -way, 5);
            due("like X, the greater", s.pair(1, 0, 2), 1);
            due("like X, the less", s.pair(0, 1, 2), 0);
            due("less far by 1", s.pair(2, 0, 2), 1);
            due("farther by 1", s.pair(0, 2, 2), 0);
            due("farther by 1, though of the greater number", s.pair(3, 0, 2), 0);
            due("less far by 1, though of the less number", s.pair(0, 3, 2), 1);
            due("another WAY", s.pair(4, 0, 2), 0);
            due("another WAY", s.pair(0, 4, 2), 0);
            due("another WAY, like X", s.pair(5, 0, 2), 0);
        }
        SmokeRings ends = new SmokeRings();
        plain(ends, -99999, 1, 5);
        plain(ends, 99999, 1, 5);
        due("from end to end", ends.pair(0, 1, 2), 1);
        due("from end to end", ends.pair(1, 0, 2), 0);
    }

    private void gaps() {
        says("11: GAP of two: how far apart they are in X.");
        SmokeRings s = new SmokeRings();
        plain(s, -99999, 1, 5);
        plain(s, 99999, -1, 5);
        plain(s, 99999, 1, 5);
        due("the most", s.pair(0, 1, 0), 199998);
        due("the most", s.pair(1, 0, 0), 199998);
        due("none", s.pair(1, 2, 0), 0);
        s.end(0);
        s.end(1);
        due("also of RINGS that are gone", s.pair(1, 0, 0), 199998);
        due("also of RINGS that are gone", s.pair(1, 0, 1), 1);
        due("also of RINGS that are gone", s.pair(0, 2, 2), 1);
    }

    private void pairsRefused() {
        says("11: BEYOND: also one twice.");
        for (int what = 0; what <= 2; what++) {
            int asked = what;
            refused("pair(1, 1, " + what + ")", Boundary::rich, s -> s.pair(1, 1, asked), BEYOND);
        }
        for (int ring : new int[] {-1, 8, LEAST, MOST}) {
            refusedEverywhere("pair(" + ring + ", 0, 0)", s -> s.pair(ring, 0, 0), BEYOND);
            refusedEverywhere("pair(0, " + ring + ", 0)", s -> s.pair(0, ring, 0), BEYOND);
        }
        refused("pair(4, 0, 0) of 4", Boundary::rich, s -> s.pair(4, 0, 0), BEYOND);
        refused("pair(0, 4, 0) of 4", Boundary::rich, s -> s.pair(0, 4, 0), BEYOND);
        for (int what : new int[] {-1, 3, LEAST, MOST}) {
            refusedEverywhere("pair(0, 1, " + what + ")", s -> s.pair(0, 1, what), BEYOND);
        }
        looks("pair(7, 6, 0)", Boundary::full, s -> s.pair(7, 6, 0), 20);
    }

    /** A LAW and two RINGS: RING 0 at X 0, Y 0, WAY 1, WIDE 1. */
    private static SmokeRings lawAndTwo(int kind, int m, int x, int y, int way, int turning) {
        SmokeRings s = new SmokeRings();
        s.law(kind, m);
        s.ring(xy(0, 0), 1, turning, 104);
        s.ring(xy(x, y), way, turning, 103);
        return s;
    }

    private void widensOfLaw() {
        says("10: LAW: 0, if they aren't NEAR or go unlike WAYS; else m times TURNING of the other one by (GAP and 10),"
            + " less than 0 (that, turned) if it is BEHIND. JOINING: as LAW.");
        for (int kind : new int[] {0, 2}) {
            due("m 0", lawAndTwo(kind, 0, 0, 0, 1, 999).does(0, 0, 1, 0), 0);
            due("TURNING 0", lawAndTwo(kind, 99, 0, 0, 1, 0).does(0, 0, 1, 0), 0);
            due("the most", lawAndTwo(kind, 99, 0, 0, 1, 999).does(0, 0, 1, 0), 9890);
            due("the least: of like X the greater is BEHIND", lawAndTwo(kind, 99, 0, 0, 1, 999).does(0, 1, 0, 0), -9890);
            due("GAP 1", lawAndTwo(kind, 10, -1, 0, 1, 11).does(0, 0, 1, 0), 10);
            due("GAP 1, BEHIND", lawAndTwo(kind, 10, -1, 0, 1, 11).does(0, 1, 0, 0), -10);
            due("cut", lawAndTwo(kind, 1, 0, 0, 1, 19).does(0, 0, 1, 0), 1);
            due("cut toward 0", lawAndTwo(kind, 1, 0, 0, 1, 19).does(0, 1, 0, 0), -1);
            due("less than 1", lawAndTwo(kind, 1, 0, 0, 1, 9).does(0, 1, 0, 0), 0);
            due("from end to end", lawAndTwo(kind, 99, 99999, 0, 1, 999).does(0, 0, 1, 0), 0);
            due("98901 by 98901", lawAndTwo(kind, 99, 98891, 0, 1, 999).does(0, 0, 1, 0), -1);
            due("98901 by 98902", lawAndTwo(kind, 99, 98892, 0, 1, 999).does(0, 0, 1, 0), 0);
            due("just NEAR", lawAndTwo(kind, 10, -30, 1, 1, 40).does(0, 0, 1, 0), 10);
            due("just not NEAR", lawAndTwo(kind, 10, -30, 2, 1, 40).does(0, 0, 1, 0), 0);
            due("unlike WAYS", lawAndTwo(kind, 10, -30, 0, -1, 40).does(0, 0, 1, 0), 0);
        }
        SmokeRings unlike = new SmokeRings();
        unlike.law(0, 10);
        plain(unlike, 0, 1, 10);
        plain(unlike, 0, 1, 20);
        due("TURNING of the other one", unlike.does(0, 0, 1, 0), 20);
        due("TURNING of the other one", unlike.does(0, 1, 0, 0), -10);
    }

    private void widensOfThrough() {
        says("10: THROUGH: as LAW, twice that if GAP is less than both THICKS together.");
        due("GAP 6, both 7 THICK: 2 * (159 / 16)", lawAndTwo(1, 3, -6, 0, 1, 53).does(0, 0, 1, 0), 18);
        due("GAP 7, both 7 THICK: 159 / 17", lawAndTwo(1, 3, -7, 0, 1, 53).does(0, 0, 1, 0), 9);
        due("GAP 6, BEHIND", lawAndTwo(1, 3, -6, 0, 1, 53).does(0, 1, 0, 0), -18);
        due("GAP 7, BEHIND", lawAndTwo(1, 3, -7, 0, 1, 53).does(0, 1, 0, 0), -9);
        due("GAP 6 in front", lawAndTwo(1, 3, 6, 0, 1, 53).does(0, 0, 1, 0), -18);
        due("the most", lawAndTwo(1, 99, 0, 0, 1, 999).does(0, 0, 1, 0), 19780);
        due("not NEAR", lawAndTwo(1, 99, 0, 2, 1, 999).does(0, 0, 1, 0), 0);
        due("unlike WAYS", lawAndTwo(1, 99, 0, 0, -1, 999).does(0, 0, 1, 0), 0);
        due("m 0", lawAndTwo(1, 0, 0, 0, 1, 999).does(0, 0, 1, 0), 0);
    }

    private void widensOfHeadlong() {
        says("10: HEADLONG: m times TURNING of the other one by (GAP and 10), if they are NEAR and go unlike WAYS; else 0."
            + " TORN: as HEADLONG.");
        for (int kind : new int[] {3, 4}) {
            due("the most", lawAndTwo(kind, 99, 0, 0, -1, 999).does(0, 0, 1, 0), 9890);
            due("of both", lawAndTwo(kind, 99, 0, 0, -1, 999).does(0, 1, 0, 0), 9890);
            due("also when they are past one another", lawAndTwo(kind, 10, -30, 0, -1, 40).does(0, 1, 0, 0), 10);
            due("just NEAR", lawAndTwo(kind, 10, 30, 1, -1, 40).does(0, 0, 1, 0), 10);
            due("just not NEAR", lawAndTwo(kind, 10, 30, 2, -1, 40).does(0, 0, 1, 0), 0);
            due("like WAYS", lawAndTwo(kind, 10, 30, 0, 1, 40).does(0, 0, 1, 0), 0);
            due("never twice", lawAndTwo(kind, 3, -6, 0, -1, 53).does(0, 0, 1, 0), 9);
            due("m 0", lawAndTwo(kind, 0, 0, 0, -1, 999).does(0, 0, 1, 0), 0);
            due("TURNING 0", lawAndTwo(kind, 99, 0, 0, -1, 0).does(0, 0, 1, 0), 0);
        }
        says("10: WALLED: 0.");
        for (int kind : new int[] {5, 6}) {
            due("like WAYS", lawAndTwo(kind, 99, 0, 0, 1, 999).does(0, 0, 1, 0), 0);
            due("unlike WAYS", lawAndTwo(kind, 99, 0, 0, -1, 999).does(0, 0, 1, 0), 0);
        }
    }

    /** What a LAW does to a RING by itself, so far from WALL. */
    private static int byWall(int kind, int m, int turning, int far, int what) {
        SmokeRings s = new SmokeRings();
        s.law(kind, m);
        s.wall(50 + far);
        s.ring(xy(50, 0), far % 2 == 0 ? 1 : -1, turning, 104);
        return s.does(0, 0, 0, what);
    }

    private void spreads() {
        says("10: SPREADS: WALLED: m times its TURNING by (how far WALL is from it in X, and 10), if that is less than 100 far,"
            + " else 0. SLANTED: half of that. Others: 0.");
        int[] cut = {-100, -99, -1, 0, 1, 99, 100, 101};
        // 10 * 109 is 1090
        int[] due = {0, 10, 99, 109, 99, 10, 0, 0};
        for (int i = 0; i < cut.length; i++) {
            due("WALLED, " + cut[i] + " far", byWall(5, 10, 109, cut[i], 2), due[i]);
            due("SLANTED, " + cut[i] + " far", byWall(6, 10, 109, cut[i], 2), due[i] / 2);
            for (int kind = 0; kind <= 4; kind++) {
                due("KIND " + kind + ", " + cut[i] + " far", byWall(kind, 10, 109, cut[i], 2), 0);
            }
        }
        due("98 far is cut", byWall(5, 10, 109, 98, 2), 10);
        due("the most", byWall(5, 99, 999, 0, 2), 9890);
        due("m 0", byWall(5, 0, 999, 0, 2), 0);
        due("TURNING 0", byWall(5, 99, 0, 0, 2), 0);
        due("half of 1", byWall(6, 1, 19, 0, 2), 0);
        due("half of 3", byWall(6, 1, 39, 0, 2), 1);
        SmokeRings first = new SmokeRings();
        first.law(5, 10);
        first.ring(xy(99899, 0), 1, 109, 104);
        first.ring(xy(99900, 0), 1, 109, 104);
        first.ring(xy(-99999, 0), 1, 109, 104);
        due("100 far from WALL as it is at first", first.does(0, 0, 0, 2), 0);
        due("99 far from WALL as it is at first", first.does(0, 1, 0, 2), 10);
        due("as far as can be", first.does(0, 2, 0, 2), 0);
    }

    private void lifts() {
        says("10: LIFTS: SLANTED: what it SPREADS; others: 0.");
        int[] far = {-100, -99, 0, 99, 100};
        int[] due = {0, 5, 54, 5, 0};
        for (int i = 0; i < far.length; i++) {
            due("SLANTED, " + far[i] + " far", byWall(6, 10, 109, far[i], 3), due[i]);
            for (int kind = 0; kind <= 5; kind++) {
                due("KIND " + kind + ", " + far[i] + " far", byWall(kind, 10, 109, far[i], 3), 0);
            }
        }
    }

    private void endsOfJoining() {
        says("10: ENDS: JOINING: if both are NEAR, go the same WAY, GAP is m or less, and this one is BEHIND");
        due("GAP m", lawAndTwo(2, 20, -20, 0, 1, 5).does(0, 1, 0, 1), 1);
        due("GAP is more than m", lawAndTwo(2, 20, -21, 0, 1, 5).does(0, 1, 0, 1), 0);
        due("GAP is less than m", lawAndTwo(2, 20, -19, 0, 1, 5).does(0, 1, 0, 1), 1);
        due("in front", lawAndTwo(2, 20, -20, 0, 1, 5).does(0, 0, 1, 1), 0);
        due("m 0, GAP 0", lawAndTwo(2, 0, 0, 0, 1, 5).does(0, 1, 0, 1), 1);
        due("m 0, GAP 0, the less", lawAndTwo(2, 0, 0, 0, 1, 5).does(0, 0, 1, 1), 0);
        due("m 0, GAP 1", lawAndTwo(2, 0, -1, 0, 1, 5).does(0, 1, 0, 1), 0);
        due("m 99, GAP 99", lawAndTwo(2, 99, 99, 0, 1, 5).does(0, 0, 1, 1), 1);
        due("m 99, GAP 100", lawAndTwo(2, 99, 100, 0, 1, 5).does(0, 0, 1, 1), 0);
        due("just NEAR", lawAndTwo(2, 20, -20, 1, 1, 5).does(0, 1, 0, 1), 1);
        due("just not NEAR", lawAndTwo(2, 20, -20, 2, 1, 5).does(0, 1, 0, 1), 0);
        due("unlike WAYS", lawAndTwo(2, 20, 0, 0, -1, 5).does(0, 1, 0, 1), 0);
        due("unlike WAYS", lawAndTwo(2, 20, 0, 0, -1, 5).does(0, 0, 1, 1), 0);
        says("10: others never (end another one)");
        for (int kind : new int[] {0, 1, 3, 5, 6}) {
            SmokeRings s = new SmokeRings();
            s.law(kind, 99);
            s.ring(xy(0, 0), 1, 5, 20004);
            s.ring(xy(0, 0), 1, 5, 20004);
            s.ring(xy(0, 0), -1, 5, 20004);
            due("KIND " + kind, s.does(0, 1, 0, 1) + s.does(0, 0, 1, 1) + s.does(0, 2, 0, 1) + s.does(0, 0, 2, 1), 0);
        }
    }

    private void endsOfTorn() {
        says("10: ENDS: TORN: if its WIDE is 150 or more, and they are NEAR");
        SmokeRings s = new SmokeRings();
        s.law(4, 0);
        s.ring(xy(0, 0), 1, 5, 15004);
        s.ring(xy(9000, 0), 1, 5, 14904);
        s.ring(xy(-9000, 298), -1, 5, 14904);
        s.ring(xy(-9000, -299), -1, 5, 14904);
        s.ring(xy(0, 0), 1, 5, 20004);
        due("150 wide", s.does(0, 0, 1, 1), 1);
        due("149 wide", s.does(0, 1, 0, 1), 0);
        due("200 wide", s.does(0, 4, 1, 1), 1);
        due("just NEAR, another WAY", s.does(0, 0, 2, 1), 1);
        due("just not NEAR", s.does(0, 0, 3, 1), 0);
        due("149 wide by the widest", s.does(0, 2, 4, 1), 0);
        due("both wide", s.does(0, 0, 4, 1) + s.does(0, 4, 0, 1), 2);
    }

    private void doesRefused() {
        says("10: by itself: 2 SPREADS, 3 LIFTS (the other one is not looked at)");
        for (int other : new int[] {0, 1, 4, 8, -1, LEAST, MOST}) {
            looks("does(2, 0, " + other + ", 2)", Boundary::rich, s -> s.does(2, 0, other, 2), 0);
            looks("does(2, 0, " + other + ", 3)", Boundary::rich, s -> s.does(2, 0, other, 3), 0);
        }
        says("10: BEYOND: LAW, RING, what, the other one (0, 1; also itself).");
        for (int what = 0; what <= 3; what++) {
            int asked = what;
            for (int law : new int[] {-1, 6, LEAST, MOST}) {
                refusedEverywhere("does(" + law + ", 0, 1, " + what + ")", s -> s.does(law, 0, 1, asked), BEYOND);
            }
            for (int ring : new int[] {-1, 8, LEAST, MOST}) {
                refusedEverywhere("does(0, " + ring + ", 1, " + what + ")", s -> s.does(0, ring, 1, asked), BEYOND);
            }
            refused("does(3, 0, 1, " + what + ") of 3", Boundary::rich, s -> s.does(3, 0, 1, asked), BEYOND);
            refused("does(0, 4, 1, " + what + ") of 4", Boundary::rich, s -> s.does(0, 4, 1, asked), BEYOND);
        }
        for (int what : new int[] {-1, 4, LEAST, MOST}) {
            refusedEverywhere("does(0, 0, 1, " + what + ")", s -> s.does(0, 0, 1, what), BEYOND);
        }
        for (int what = 0; what <= 1; what++) {
            int asked = what;
            for (int other : new int[] {0, -1, 8, LEAST, MOST}) {
                refusedEverywhere("does(0, 0, " + other + ", " + what + ")", s -> s.does(0, 0, other, asked), BEYOND);
            }
            refused("does(0, 0, 4, " + what + ") of 4", Boundary::rich, s -> s.does(0, 0, 4, asked), BEYOND);
        }
        says("10: also of RINGS that are gone, by what they were last");
        SmokeRings s = lawAndTwo(0, 10, -1, 0, 1, 11);
        s.law(2, 1);
        s.law(6, 20);
        s.wall(0);
        s.end(0);
        s.end(1);
        due("WIDENS", s.does(0, 0, 1, 0), 10);
        due("ENDS", s.does(1, 1, 0, 1), 1);
        due("SPREADS", s.does(2, 0, 1, 2), 11);
        due("LIFTS", s.does(2, 1, 0, 3), 10);
    }
}
