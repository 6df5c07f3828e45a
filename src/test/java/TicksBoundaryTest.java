/** The boundary cases of promises 18 to 20 and of how a TICK goes by ("Terms" 3). */
public final class TicksBoundaryTest extends Boundary {
    public static void main(String[] args) {
        TicksBoundaryTest test = new TicksBoundaryTest();
        test.boundsOfTicks();
        test.lastTick();
        test.ticksRefused();
        test.heldInX();
        test.heldInY();
        test.heldInWidth();
        test.heldInTurning();
        test.heldBehindTheTick();
        test.byWhatWasAhead();
        test.wholeOnesAlone();
        test.lawsThatAreOff();
        test.endsByWhatWasAhead();
        test.endsByOneThatWasWhole();
        test.firstOtherAndFirstLaw();
        test.joinedOnesThatAreGone();
        test.heldByJoining();
        test.goneWithoutTurning();
        test.atTheWall();
        test.oneMoreTick();
        test.boundsOfBreezes();
        test.draws();
        test.breezesHeld();
        test.fronts();
        test.finish();
    }

    private void boundsOfTicks() {
        says("18: n (1 to 100) TICKS go by: NOW. BEYOND: n.");
        SmokeRings s = new SmokeRings();
        due("1", s.ticks(1), 1);
        due("100", s.ticks(100), 101);
        due("NOW", s.count(0), 101);
        for (int n : new int[] {0, 101, -1, LEAST, MOST}) {
            refusedEverywhere("ticks(" + n + ")", r -> r.ticks(n), BEYOND);
        }
    }

    private static SmokeRings at(int now) {
        SmokeRings s = new SmokeRings();
        goTo(s, now);
        plain(s, 0, 1, 100);
        return s;
    }

    private void lastTick() {
        says("18: STATE: it would be above 9999.");
        SmokeRings s = at(9899);
        due("up to 9999", s.ticks(100), 9999);
        due("no more", s.ticks(1), STATE);
        due("NOW", s.count(0), 9999);
        SmokeRings one = at(9998);
        due("the last", one.ticks(1), 9999);
        due("X", one.ofRing(0, 0), 30);
        refused("ticks(100) at 9900", () -> at(9900), r -> r.ticks(100), STATE);
        refused("ticks(2) at 9998", () -> at(9998), r -> r.ticks(2), STATE);
        refused("ticks(1) at 9999", Boundary::full, r -> r.ticks(1), STATE);
        refused("ticks(100) at 9999", Boundary::full, r -> r.ticks(100), STATE);
    }

    private void ticksRefused() {
        says("18: BEYOND: n. STATE. (in this order)");
        refused("ticks(101) at 9999", Boundary::full, r -> r.ticks(101), BEYOND);
        refused("ticks(0) at 9999", Boundary::full, r -> r.ticks(0), BEYOND);
    }

    /** X behind a TICK of a RING whose PACE is 3. */
    private static int xBehind(int x, int way) {
        SmokeRings s = lossless();
        s.ring(xy(x, 0), way, 1, 101);
        s.ticks(1);
        return s.ofRing(0, 0);
    }

    private void heldInX() {
        says("18: X is more by PACE times WAY; X (-99999 to 99999). What would be more or less than that is held there.");
        due("to 99999", xBehind(99996, 1), 99999);
        due("to 100000", xBehind(99997, 1), 99999);
        due("to 100002", xBehind(99999, 1), 99999);
        due("to -99999", xBehind(-99996, -1), -99999);
        due("to -100000", xBehind(-99997, -1), -99999);
        due("to -100002", xBehind(-99999, -1), -99999);
        due("away from there", xBehind(-99999, 1), -99996);
        due("away from there", xBehind(99999, -1), 99996);
        due("through 0", xBehind(-1, 1), 2);
        due("through 0", xBehind(1, -1), -2);
        SmokeRings fast = lossless();
        fast.ring(xy(98000, 0), 1, 999, 101);
        fast.ring(xy(-98000, 0), -1, 999, 101);
        fast.ticks(1);
        due("as fast as can be", fast.ofRing(0, 0), 99999);
        due("as fast as can be", fast.ofRing(1, 0), -99999);
        due("still whole", fast.count(2), 2);
    }

    /** Y behind a TICK in which a RING at WALL is lifted by so much. */
    private static int yBehind(int y, int lift) {
        SmokeRings s = lossless();
        s.law(6, 20);
        s.wall(0);
        s.ring(xy(0, y), -1, lift, 2004);
        s.ticks(1);
        return s.ofRing(0, 1);
    }

    private void heldInY() {
        says("18: Y by LIFTS; Y (-999 to 999). What would be more or less than that is held there.");
        due("by 1", yBehind(997, 1), 998);
        due("to 999", yBehind(998, 1), 999);
        due("to 1000", yBehind(998, 2), 999);
        due("to 1000", yBehind(999, 1), 999);
        due("far above", yBehind(0, 999), 999);
        due("from the least", yBehind(-999, 1), -998);
        due("through 0", yBehind(-1, 2), 1);
    }

    /** WIDE behind a TICK in which a RING at WALL spreads by so much. */
    private static int wideBehind(int wide, int spread) {
        SmokeRings s = lossless();
        s.law(5, 10);
        s.wall(0);
        s.ring(xy(0, 0), -1, spread, 100 * wide + 1);
        s.ticks(1);
        return s.ofRing(0, 4);
    }

    /** WIDE behind a TICK in which a RING that is BEHIND gets narrower by so much. */
    private static int narrowBehind(int wide, int by) {
        SmokeRings s = lossless();
        s.law(0, 10);
        s.ring(xy(0, 0), 1, by, 2004);
        s.ring(xy(0, 0), 1, 1, 100 * wide + 1);
        s.ticks(1);
        return s.ofRing(1, 4);
    }

    private void heldInWidth() {
        says("18: WIDE (1 to 200). What would be more or less than that is held there.");
        due("198 and 1", wideBehind(198, 1), 199);
        due("199 and 1", wideBehind(199, 1), 200);
        due("199 and 2", wideBehind(199, 2), 200);
        due("200 and 1", wideBehind(200, 1), 200);
        due("1 and 199", wideBehind(1, 199), 200);
        due("1 and 200", wideBehind(1, 200), 200);
        due("1 and 999", wideBehind(1, 999), 200);
        due("1 and 0", wideBehind(1, 0), 1);
        due("3 less 1", narrowBehind(3, 1), 2);
        due("3 less 2", narrowBehind(3, 2), 1);
        due("3 less 3", narrowBehind(3, 3), 1);
        due("3 less 4", narrowBehind(3, 4), 1);
        due("1 less 1", narrowBehind(1, 1), 1);
        due("200 less 199", narrowBehind(200, 199), 1);
        due("200 less 198", narrowBehind(200, 198), 2);
        due("1 less 999", narrowBehind(1, 999), 1);
    }

    /** TURNING behind a TICK in which so much is lost. */
    private static int turningBehind(int turning, int loss) {
        SmokeRings s = new SmokeRings();
        text(s, 1, String.valueOf(loss));
        plain(s, 0, 1, turning);
        s.ticks(1);
        return s.ofRing(0, 3);
    }

    private void heldInTurning() {
        says("18: TURNING is less by LOSS; TURNING (0 to 999). What would be more or less than that is held there.");
        due("5 less 4", turningBehind(5, 4), 1);
        due("5 less 5", turningBehind(5, 5), 0);
        due("5 less 6", turningBehind(5, 6), 0);
        due("5 less 999", turningBehind(5, 999), 0);
        due("999 less 999", turningBehind(999, 999), 0);
        due("999 less 9999: LOSS is held", turningBehind(999, 9999), 0);
        due("999 less 0", turningBehind(999, 0), 999);
        due("0 less 0", turningBehind(0, 0), 0);
        SmokeRings gain = new SmokeRings();
        text(gain, 1, "0-1");
        plain(gain, 0, 1, 5);
        gain.ticks(1);
        due("no LOSS is below 0", gain.ofRing(0, 3), 5);
        SmokeRings names = new SmokeRings();
        text(names, 1, "(t=100)*(w=20)*(k=4)*7");
        plain(names, 0, 1, 100);
        names.ticks(1);
        due("of t, w, k as they were", names.ofRing(0, 3), 93);
    }

    private void heldBehindTheTick() {
        says("18: held behind it (all LAWS and RINGS together, then held)");
        SmokeRings s = lossless();
        s.law(0, 10);
        plain(s, 0, 1, 50);
        s.ring(xy(0, 0), 1, 1, 504);
        plain(s, 0, 1, 50);
        s.ticks(1);
        due("5, less 50, and 50", s.ofRing(1, 4), 5);
        SmokeRings wide = lossless();
        wide.law(0, 10);
        wide.law(5, 10);
        wide.wall(0);
        wide.ring(xy(0, 0), -1, 50, 2004);
        wide.ring(xy(0, 0), -1, 40, 20004);
        wide.ticks(1);
        due("200, less 50, and 40", wide.ofRing(1, 4), 190);
        SmokeRings order = lossless();
        order.law(5, 10);
        order.law(0, 10);
        order.wall(0);
        order.ring(xy(0, 0), -1, 50, 2004);
        order.ring(xy(0, 0), -1, 40, 20004);
        order.ticks(1);
        due("200, and 40, less 50", order.ofRing(1, 4), 190);
    }

    private void byWhatWasAhead() {
        says("18: all by what was ahead of the TICK");
        SmokeRings s = new SmokeRings();
        s.law(5, 10);
        s.wall(-10);
        text(s, 1, "w");
        s.ring(xy(0, 0), -1, 40, 2004);
        s.ticks(1);
        due("X by PACE as it was: 40 * 6 / 20", s.ofRing(0, 0), -12);
        due("WIDE by TURNING and X as they were: 400 / 20", s.ofRing(0, 4), 40);
        due("LOSS by WIDE as it was", s.ofRing(0, 3), 20);
        SmokeRings pair = lossless();
        pair.law(0, 10);
        plain(pair, -10, 1, 100);
        plain(pair, 0, 1, 100);
        pair.ticks(1);
        due("0 was BEHIND, GAP 10", pair.ofRing(0, 4), 1);
        due("1 was in front, GAP 10", pair.ofRing(1, 4), 70);
    }

    private void wholeOnesAlone() {
        says("18: of each whole RING .. by all other whole ones");
        SmokeRings s = lossless();
        s.law(0, 10);
        s.law(5, 10);
        s.law(6, 20);
        s.wall(40);
        plain(s, 0, 1, 100);
        plain(s, 0, 1, 100);
        s.end(1);
        s.ticks(1);
        traits("who is gone stays", s, 1, 0, 0, 1, 100, 20, 4, 0);
        due("it widens no one: 20 and 1000 / 50 and half of 2000 / 50", s.ofRing(0, 4), 20 + 20 + 20);
        due("Y", s.ofRing(0, 1), 20);
        SmokeRings alone = lossless();
        alone.law(0, 99);
        plain(alone, 0, 1, 100);
        alone.ticks(1);
        due("none widens itself", alone.ofRing(0, 4), 20);
        SmokeRings all = lossless();
        all.law(0, 10);
        for (int i = 0; i < 8; i++) {
            all.ring(xy(0, 0), 1, 1, 10004);
        }
        all.ticks(1);
        for (int i = 0; i < 8; i++) {
            due("by those in front and those BEHIND", all.ofRing(i, 4), 100 + (7 - i) - i);
        }
        SmokeRings none = new SmokeRings();
        none.law(0, 99);
        due("no RINGS at all", none.ticks(100), 100);
    }

    private void lawsThatAreOff() {
        says("18: of all LAWS that are on");
        SmokeRings s = lossless();
        for (int i = 0; i < 6; i++) {
            s.law(6, 20);
        }
        s.wall(0);
        s.ring(xy(0, 0), -1, 1, 2004);
        s.ticks(1);
        due("six lift it", s.ofRing(0, 1), 6);
        due("six widen it", s.ofRing(0, 4), 26);
        for (int i = 0; i < 6; i++) {
            SmokeRings one = lossless();
            for (int k = 0; k < 6; k++) {
                one.law(6, 20);
            }
            one.turn(i, 0);
            one.wall(0);
            one.ring(xy(0, 0), -1, 1, 2004);
            one.ticks(1);
            due("one is off", one.ofRing(0, 1), 5);
            due("one is off", one.ofRing(0, 4), 25);
        }
    }

    private void endsByWhatWasAhead() {
        says("18: (2) those are gone of which some LAW ENDS them (also by what was ahead of it)");
        SmokeRings wide = lossless();
        wide.law(5, 10);
        wide.law(4, 0);
        wide.wall(0);
        wide.ring(xy(0, 0), -1, 1, 14904);
        wide.ring(xy(500, 0), -1, 1, 2004);
        wide.ticks(1);
        due("150 wide behind the TICK", wide.ofRing(0, 4), 150);
        due("was 149 wide", wide.ofRing(0, 6), 1);
        wide.ticks(1);
        due("was 150 wide", wide.ofRing(0, 6), 0);
        due("151 wide behind it", wide.ofRing(0, 4), 151);
        SmokeRings narrow = lossless();
        narrow.law(0, 10);
        narrow.law(4, 0);
        narrow.ring(xy(0, 0), 1, 10, 2004);
        narrow.ring(xy(0, 0), 1, 1, 15004);
        narrow.ticks(1);
        due("140 wide behind the TICK", narrow.ofRing(1, 4), 140);
        due("was 150 wide", narrow.ofRing(1, 6), 0);
        SmokeRings gap = lossless();
        gap.law(2, 10);
        gap.ring(xy(0, 0), 1, 2, 101);
        gap.ring(xy(-10, 0), 1, 1, 101);
        gap.ring(xy(-21, 0), 1, 5, 101);
        gap.ticks(1);
        due("GAP is 13 behind the TICK", gap.pair(0, 1, 0), 13);
        due("was 10", gap.ofRing(1, 6), 0);
        due("GAP is 1 behind the TICK", gap.pair(1, 2, 0), 1);
        due("was 11", gap.ofRing(2, 6), 1);
    }

    private void endsByOneThatWasWhole() {
        says("18: (2) by some other one that was whole ahead of the TICK");
        SmokeRings s = lossless();
        s.law(2, 0);
        plain(s, 0, 1, 100);
        plain(s, 0, 1, 100);
        s.end(0);
        s.ticks(1);
        due("by one that was gone", s.ofRing(1, 6), 1);
        due("who was gone gets nothing", s.ofRing(0, 3), 100);
        SmokeRings torn = lossless();
        torn.law(4, 0);
        torn.ring(xy(0, 0), 1, 1, 20004);
        torn.ring(xy(0, 0), 1, 1, 20004);
        torn.ticks(1);
        due("both tear one another", torn.count(2), 0);
        SmokeRings alone = lossless();
        alone.law(4, 0);
        alone.law(2, 99);
        alone.ring(xy(0, 0), 1, 1, 20004);
        alone.ticks(100);
        due("none ends by itself", alone.count(2), 1);
        SmokeRings off = lossless();
        off.law(2, 0);
        off.law(4, 0);
        off.turn(0, 0);
        off.turn(1, 0);
        off.ring(xy(0, 0), 1, 1, 20004);
        off.ring(xy(0, 0), 1, 1, 20004);
        off.ticks(1);
        due("by LAWS that are off", off.count(2), 2);
    }

    private void firstOtherAndFirstLaw() {
        says("18: (2) if the first such other one by numbers does so by a JOINING one as the first such LAW");
        int[][] orders = {{2, 4, 30}, {4, 2, 10}};
        for (int[] order : orders) {
            SmokeRings s = lossless();
            s.law(order[0], 0);
            s.law(order[1], 0);
            plain(s, 0, 1, 10);
            s.ring(xy(0, 0), 1, 20, 15004);
            s.ticks(1);
            due("who was in front", s.ofRing(0, 3), order[2]);
            due("who was BEHIND", s.ofRing(1, 6), 0);
        }
        SmokeRings offFirst = lossless();
        offFirst.law(4, 0);
        offFirst.law(2, 0);
        offFirst.turn(0, 0);
        plain(offFirst, 0, 1, 10);
        offFirst.ring(xy(0, 0), 1, 20, 15004);
        offFirst.ticks(1);
        due("the first is off", offFirst.ofRing(0, 3), 30);
        SmokeRings second = lossless();
        second.law(2, 0);
        second.law(4, 0);
        plain(second, 9000, -1, 1);
        plain(second, 0, 1, 10);
        second.ring(xy(0, 0), 1, 20, 15004);
        second.ticks(1);
        due("RING 0 tore it, RING 1 gets nothing", second.ofRing(1, 3), 10);
        due("nor does RING 0", second.ofRing(0, 3), 1);
        SmokeRings two = lossless();
        two.law(2, 5);
        plain(two, 2, 1, 10);
        plain(two, 3, 1, 10);
        plain(two, 0, 1, 20);
        two.ticks(1);
        due("0 joins 1, whole still", two.ofRing(1, 3), 20);
        due("2 joins 0, which is gone, not 1", two.count(2), 1);
        SmokeRings least = lossless();
        least.law(2, 5);
        plain(least, 3, 1, 10);
        plain(least, -3, 1, 20);
        plain(least, 2, 1, 10);
        least.ticks(1);
        due("1 joins 2: 0 is 6 away; then 2 joins 0 with all of it", least.ofRing(0, 3), 40);
    }

    private void joinedOnesThatAreGone() {
        says("18: (2) and is whole still, its TURNING is more by that of who is gone");
        SmokeRings up = lossless();
        up.law(2, 1);
        for (int i = 0; i < 8; i++) {
            plain(up, i, 1, 1 << i);
        }
        up.ticks(1);
        due("each gives all to the next", up.ofRing(7, 3), 255);
        due("one is left", up.count(2), 1);
        due("who is gone keeps what it had", up.ofRing(3, 3), 15);
        SmokeRings down = lossless();
        down.law(2, 1);
        for (int i = 0; i < 8; i++) {
            plain(down, -i, 1, 1 << i);
        }
        down.ticks(1);
        due("the first gets that of the second alone", down.ofRing(0, 3), 3);
        due("one is left", down.count(2), 1);
        due("who is gone gets nothing", down.ofRing(1, 3), 2);
        SmokeRings loss = new SmokeRings();
        loss.law(2, 0);
        text(loss, 1, "t/2");
        plain(loss, 0, 1, 10);
        plain(loss, 0, 1, 30);
        loss.ticks(1);
        due("what is left behind LOSS: 5 and 15", loss.ofRing(0, 3), 20);
        due("who is gone", loss.ofRing(1, 3), 15);
    }

    private static int joined(int one, int other) {
        SmokeRings s = lossless();
        s.law(2, 0);
        plain(s, 0, 1, one);
        plain(s, 0, 1, other);
        s.ticks(1);
        return s.ofRing(0, 3);
    }

    private void heldByJoining() {
        says("18: (2) its TURNING is more by that of who is gone (held)");
        due("998", joined(500, 498), 998);
        due("999", joined(500, 499), 999);
        due("1000", joined(500, 500), 999);
        due("1998", joined(999, 999), 999);
        due("nothing more", joined(7, 0), 7);
    }

    private void goneWithoutTurning() {
        says("18: (3) Whole ones with TURNING 0 are gone.");
        SmokeRings s = lossless();
        plain(s, 0, 1, 0);
        plain(s, 0, 1, 1);
        due("whole ahead of the TICK", s.count(2), 2);
        s.ticks(1);
        due("TURNING 0", s.ofRing(0, 6), 0);
        due("TURNING 1", s.ofRing(1, 6), 1);
        SmokeRings lost = new SmokeRings();
        text(lost, 1, "5");
        plain(lost, 0, 1, 5);
        plain(lost, 0, 1, 6);
        lost.ticks(1);
        due("5 less 5", lost.ofRing(0, 6), 0);
        due("6 less 5", lost.ofRing(1, 6), 1);
        due("who is gone had gone on", lost.ofRing(0, 0), 1);
        SmokeRings both = lossless();
        both.law(2, 0);
        plain(both, 0, 1, 0);
        plain(both, 0, 1, 0);
        both.ticks(1);
        due("0 and 0", both.count(2), 0);
        due("joined in time", joined(0, 1), 1);
        SmokeRings saved = lossless();
        saved.law(2, 0);
        plain(saved, 0, 1, 0);
        plain(saved, 0, 1, 1);
        saved.ticks(1);
        due("joined ahead of (3)", saved.ofRing(0, 6), 1);
    }

    private void atTheWall() {
        says("18: (4) A whole one of WAY 1 with X above WALL is at WALL.");
        int[][] cases = {
            // X, WAY, TURNING, X behind a TICK in which PACE is 6 * TURNING / 20; WALL is at 50
            {47, 1, 10, 50}, {46, 1, 10, 49}, {48, 1, 10, 50}, {50, 1, 10, 50}, {50, 1, 1, 50}, {51, 1, 1, 50},
            {99999, 1, 1, 50}, {51, -1, 1, 51}, {53, -1, 10, 50}, {99999, -1, 1, 99999}, {51, 1, 0, 51}, {49, 1, 999, 50},
            {-99999, 1, 1, -99999}};
        for (int[] c : cases) {
            SmokeRings s = lossless();
            s.wall(50);
            plain(s, c[0], c[1], c[2]);
            s.ticks(1);
            due("from " + c[0] + ", WAY " + c[1] + ", TURNING " + c[2], s.ofRing(0, 0), c[3]);
        }
        SmokeRings gone = lossless();
        gone.wall(50);
        gone.law(2, 0);
        plain(gone, 60, 1, 10);
        plain(gone, 60, 1, 10);
        plain(gone, 80, 1, 10);
        gone.end(2);
        due("WALL alone moves no one", gone.ofRing(0, 0), 60);
        gone.ticks(1);
        due("a whole one", gone.ofRing(0, 0), 50);
        due("one that is gone in (2)", gone.ofRing(1, 0), 63);
        due("one that was gone", gone.ofRing(2, 0), 80);
        SmokeRings least = lossless();
        least.wall(-99999);
        plain(least, 99999, 1, 999);
        least.ticks(1);
        due("WALL at the very left", least.ofRing(0, 0), -99999);
    }

    private void oneMoreTick() {
        says("18: (5) NOW is 1 more.");
        SmokeRings one = lossless();
        SmokeRings many = lossless();
        plain(one, 0, 1, 100);
        plain(many, 0, 1, 100);
        due("100 at once", one.ticks(100), 100);
        for (int i = 1; i <= 100; i++) {
            due("one by one", many.ticks(1), i);
        }
        same("100 at once", new Seen(one), new Seen(many));
    }

    private void boundsOfBreezes() {
        says("19: n (1 to 100) TICKS with a BREEZE: NOW. BEYOND, STATE likewise.");
        SmokeRings s = new SmokeRings();
        due("1", s.breeze(1), 1);
        due("100", s.breeze(100), 101);
        due("no RINGS have no draws", s.count(8), 1);
        for (int n : new int[] {0, 101, -1, LEAST, MOST}) {
            refusedEverywhere("breeze(" + n + ")", r -> r.breeze(n), BEYOND);
        }
        due("up to 9999", at(9899).breeze(100), 9999);
        due("up to 9999", at(9998).breeze(1), 9999);
        refused("breeze(100) at 9900", () -> at(9900), r -> r.breeze(100), STATE);
        refused("breeze(2) at 9998", () -> at(9998), r -> r.breeze(2), STATE);
        refused("breeze(1) at 9999", Boundary::full, r -> r.breeze(1), STATE);
        refused("breeze(0) at 9999", Boundary::full, r -> r.breeze(0), BEYOND);
    }

    private static int drawn(int z) {
        return (int) ((long) z * 1103515245L + 12345L);
    }

    private static int blown(int z) {
        return (int) ((z & 0xffffffffL) / 256 % 7) - 3;
    }

    private void draws() {
        says("19: each makes it z * 1103515245 + 12345 (an int), and gives z >>> 8; its Y is more by the rest by 7, less 3");
        for (int seed : new int[] {0, 1, -1, 12345, LEAST, MOST, LEAST + 1, 1 << 30, -1000000001}) {
            SmokeRings s = lossless();
            s.ring(xy(0, 100), 1, 1, 2004);
            s.seed(seed);
            int z = seed;
            int y = 100;
            for (int i = 0; i < 9; i++) {
                s.breeze(1);
                z = drawn(z);
                y += blown(z);
                due("z behind " + seed, s.count(8), z);
                due("Y behind " + seed, s.ofRing(0, 1), y);
            }
        }
        says("19: behind it each whole RING by numbers has a draw");
        SmokeRings s = new SmokeRings();
        int[] turnings = {3, 1, 2, 4, 3, 5, 6, 3};
        for (int turning : turnings) {
            plain(s, 0, 1, turning);
        }
        s.end(2);
        text(s, 1, "(t=1)+(t=4)*2");
        s.breeze(2);
        int z = 1;
        int[] y = new int[8];
        for (int tick = 0; tick < 2; tick++) {
            for (int i = 0; i < 8; i++) {
                // 1 is gone in the first TICK, 3 has 2 left then, 2 is gone now
                if (i != 1 && i != 2) {
                    z = drawn(z);
                    y[i] += blown(z);
                }
            }
        }
        for (int i = 0; i < 8; i++) {
            due("Y of " + i, s.ofRing(i, 1), y[i]);
        }
        due("z", s.count(8), z);
        SmokeRings hundred = lossless();
        plain(hundred, 0, 1, 1);
        hundred.breeze(100);
        z = 1;
        for (int i = 0; i < 100; i++) {
            z = drawn(z);
        }
        due("100 draws", hundred.count(8), z);
        SmokeRings behind = lossless();
        behind.law(6, 20);
        behind.wall(0);
        behind.ring(xy(0, 0), -1, 1, 2004);
        behind.breeze(1);
        due("behind the TICK: lifted, too", behind.ofRing(0, 1), 1 + blown(drawn(1)));
        says("19: (a TICK alone has no draw)");
        SmokeRings calm = rich();
        int before = calm.count(8);
        calm.ticks(100);
        due("z", calm.count(8), before);
    }

    /** A z by which the next draw moves Y by so much. */
    private static int seedFor(int by) {
        int z = 0;
        while (blown(drawn(z)) != by) {
            z++;
        }
        return z;
    }

    private static int yBlown(int y, int by) {
        SmokeRings s = lossless();
        s.ring(xy(0, y), 1, 1, 2004);
        s.seed(seedFor(by));
        s.breeze(1);
        return s.ofRing(0, 1);
    }

    private void breezesHeld() {
        says("19: Y (-999 to 999). What would be more or less than that is held there.");
        for (int by = -3; by <= 3; by++) {
            due("blown by " + by, yBlown(0, by), by);
        }
        due("996 and 3", yBlown(996, 3), 999);
        due("997 and 3", yBlown(997, 3), 999);
        due("999 and 3", yBlown(999, 3), 999);
        due("999 and 1", yBlown(999, 1), 999);
        due("999 less 1", yBlown(999, -1), 998);
        due("-996 less 3", yBlown(-996, -3), -999);
        due("-997 less 3", yBlown(-997, -3), -999);
        due("-999 less 1", yBlown(-999, -1), -999);
        due("-999 and 1", yBlown(-999, 1), -998);
    }

    private void fronts() {
        says("20: FRONT: of the whole RINGS the one farthest in X, of several the least. NONE: there is no whole RING.");
        refused("no RINGS", SmokeRings::new, s -> s.front(), NONE);
        refused("none is whole", () -> {
            SmokeRings s = withRings(2);
            s.end(0);
            s.end(1);
            return s;
        }, s -> s.front(), NONE);
        looks("one", () -> withRings(1), s -> s.front(), 0);
        looks("eight", () -> withRings(8), s -> s.front(), 7);
        looks("the last is gone", () -> {
            SmokeRings s = withRings(8);
            s.end(7);
            return s;
        }, s -> s.front(), 6);
        SmokeRings like = new SmokeRings();
        for (int i = 0; i < 8; i++) {
            plain(like, -99999, i % 2 == 0 ? -1 : 1, 0);
        }
        for (int i = 0; i < 7; i++) {
            due("of like X the least", like.front(), i);
            like.end(i);
        }
        due("the last", like.front(), 7);
        SmokeRings ways = new SmokeRings();
        plain(ways, 98, 1, 1);
        plain(ways, 99, -1, 1);
        due("farthest in X, whichever WAY", ways.front(), 1);
    }
}
