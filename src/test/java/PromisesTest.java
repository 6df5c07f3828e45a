/** Each promise of the document, with answers that were worked out by hand. */
public final class PromisesTest {
    private static final int BEYOND = -1000000001;
    private static final int NONE = -1000000002;
    private static final int STATE = -1000000003;
    private static final int FULL = -1000000004;
    private static final int KIND = -1000000005;
    private static final int LEAST = Integer.MIN_VALUE;
    private static final int MOST = Integer.MAX_VALUE;

    private static int wrong = 0;
    private static int promise = 0;
    private static int asked = 0;

    public static void main(String[] args) {
        newObject();
        rings();
        ringTraits();
        ending();
        wall();
        laws();
        lawTraits();
        lawsAsKinds();
        turningLaws();
        whatLawsDo();
        edgesOfLaws();
        pairs();
        hole();
        strokes();
        trails();
        feeding();
        texts();
        faults();
        giving();
        ticks();
        lossesAndLifts();
        joiningAndTearing();
        atTheWall();
        lastTick();
        breezes();
        front();
        then();
        whole();
        turns();
        far();
        knock();
        farthest();
        second();
        alike();
        off();
        spun();
        made();
        heart();
        seed();
        voices();
        traces();
        sheets();
        putting();
        moving();
        films();
        images();
        telling();
        checking();
        counting();
        told();
        System.out.println(wrong == 0 ? "all " + asked + " answers are as due" : wrong + " answers are not as due");
        if (wrong != 0) {
            System.exit(1);
        }
    }

    private static void due(String call, int got, int want) {
        asked++;
        if (got != want) {
            wrong++;
            System.out.println("promise " + promise + ": " + call + " answered " + got + ", due is " + want);
        }
    }

    private static int xy(int x, int y) {
        return 2000 * (x + 100000) + y + 1000;
    }

    /** A RING of WIDE 20 and THICK 4 at Y 0. */
    private static int plain(SmokeRings s, int x, int way, int turning) {
        return s.ring(xy(x, 0), way, turning, 2004);
    }

    private static void traits(String what, SmokeRings s, int ring, int... due) {
        for (int i = 0; i < due.length; i++) {
            due(what + ": ofRing(" + ring + ", " + i + ")", s.ofRing(ring, i), due[i]);
        }
    }

    private static int text(SmokeRings s, int use, String text) {
        for (int i = 0; i < text.length(); i++) {
            s.feed(text.charAt(i), 1);
        }
        return s.text(use);
    }

    private static void numbers(SmokeRings s, int sheet, int... numbers) {
        s.sheet(sheet, 32, numbers.length);
        for (int i = 0; i < numbers.length; i++) {
            s.put(sheet, i, numbers[i]);
        }
    }

    private static void newObject() {
        promise = 1;
        SmokeRings s = new SmokeRings();
        int[] counts = {0, 0, 0, 0, 10, 0, 0, 0, 1};
        for (int i = 0; i < counts.length; i++) {
            due("count(" + i + ")", s.count(i), counts[i]);
        }
        for (int k = 1; k <= 5; k++) {
            due("told(" + k + ")", s.told(k), 0);
        }
        due("wall", s.wall(0), 99999);
        due("hole", s.hole(1), 10);
        due("seed", s.seed(0), 1);
        due("front", s.front(), NONE);
        due("restore", s.restore(), NONE);
        due("no sheet", s.put(0, 0, 0), NONE);
        due("no trace", s.trace(0), NONE);
        due("no ring", s.ofRing(0, 0), BEYOND);
        due("no law", s.ofLaw(0, 0), BEYOND);
        due("others are new, too", new SmokeRings().hole(3), 10);
    }

    private static void rings() {
        promise = 2;
        SmokeRings s = new SmokeRings();
        int[][] beyond = {{xy(-100000, 0), 1, 1, 101}, {xy(100000, 0), 1, 1, 101}, {xy(0, -1000), 1, 1, 101},
            {-1, 1, 1, 101}, {LEAST, 1, 1, 101}, {MOST, 1, 1, 101}, {xy(0, 0), 0, 1, 101}, {xy(0, 0), 2, 1, 101},
            {xy(0, 0), -2, 1, 101}, {xy(0, 0), 1, -1, 101}, {xy(0, 0), 1, 1000, 101}, {xy(0, 0), 1, 1, 1},
            {xy(0, 0), 1, 1, 100}, {xy(0, 0), 1, 1, 151}, {xy(0, 0), 1, 1, 20101}, {xy(0, 0), 1, 1, -101},
            {xy(0, 0), 1, 1, LEAST}, {xy(0, 0), 1, 1, MOST}};
        for (int[] b : beyond) {
            due("ring beyond", s.ring(b[0], b[1], b[2], b[3]), BEYOND);
        }
        due("none was made", s.count(1), 0);
        due("least", s.ring(xy(-99999, -999), -1, 0, 101), 0);
        traits("least", s, 0, -99999, -999, -1, 0, 1, 1, 1);
        due("most", s.ring(xy(99999, 999), 1, 999, 20050), 1);
        traits("most", s, 1, 99999, 999, 1, 999, 200, 50, 1);
        for (int i = 2; i < 8; i++) {
            due("ring", plain(s, i, 1, 1), i);
        }
        due("a ninth", plain(s, 0, 1, 1), FULL);
        due("a ninth beyond", s.ring(xy(0, 0), 0, 1, 101), BEYOND);
        s.end(3);
        due("who is gone still counts", plain(s, 0, 1, 1), FULL);
    }

    private static void ringTraits() {
        promise = 3;
        SmokeRings s = new SmokeRings();
        s.ring(xy(-7, 8), -1, 100, 2004);
        traits("ring", s, 0, -7, 8, -1, 100, 20, 4, 1, 30);
        s.ring(xy(0, 0), 1, 999, 20001);
        due("pace of the widest", s.ofRing(1, 7), 999 * 10 / 200);
        s.ring(xy(0, 0), 1, 999, 150);
        due("pace of the narrowest", s.ofRing(2, 7), 2997);
        s.ring(xy(0, 0), 1, 10, 505);
        due("as thick as wide", s.ofRing(3, 7), 6);
        s.ring(xy(0, 0), 1, 10, 905);
        due("halved once (cut)", s.ofRing(4, 7), 4);
        s.end(0);
        traits("gone", s, 0, -7, 8, -1, 100, 20, 4, 0, 30);
        due("what 8", s.ofRing(0, 8), BEYOND);
        due("what -1", s.ofRing(0, -1), BEYOND);
        due("ring 5", s.ofRing(5, 0), BEYOND);
        due("ring -1", s.ofRing(-1, 0), BEYOND);
    }

    private static void ending() {
        promise = 4;
        SmokeRings s = new SmokeRings();
        due("no ring", s.end(0), BEYOND);
        plain(s, 0, 1, 10);
        due("end", s.end(0), 1);
        due("again", s.end(0), 0);
        due("whole", s.ofRing(0, 6), 0);
        due("-1", s.end(-1), BEYOND);
        s.ticks(1);
        due("who is gone stays there", s.ofRing(0, 0), 0);
    }

    private static void wall() {
        promise = 5;
        SmokeRings s = new SmokeRings();
        due("wall", s.wall(-99999), 99999);
        due("wall", s.wall(99999), -99999);
        due("beyond", s.wall(100000), BEYOND);
        due("beyond", s.wall(-100000), BEYOND);
        due("stays", s.wall(7), 99999);
    }

    private static void laws() {
        promise = 6;
        SmokeRings s = new SmokeRings();
        due("kind -1", s.law(-1, 0), BEYOND);
        due("kind 7", s.law(7, 0), BEYOND);
        due("m -1", s.law(0, -1), BEYOND);
        due("m 100", s.law(0, 100), BEYOND);
        for (int i = 0; i < 6; i++) {
            due("law", s.law(i, i == 0 ? 99 : 0), i);
        }
        due("a seventh", s.law(6, 1), FULL);
        due("a seventh beyond", s.law(7, 1), BEYOND);
        due("laws", s.count(3), 6);
    }

    private static void lawTraits() {
        promise = 7;
        SmokeRings s = new SmokeRings();
        due("no law", s.ofLaw(0, 0), BEYOND);
        s.law(6, 42);
        due("kind", s.ofLaw(0, 0), 6);
        due("m", s.ofLaw(0, 1), 42);
        due("on", s.ofLaw(0, 2), 1);
        s.turn(0, 0);
        due("off", s.ofLaw(0, 2), 0);
        due("what 3", s.ofLaw(0, 3), BEYOND);
        due("what -1", s.ofLaw(0, -1), BEYOND);
        due("law -1", s.ofLaw(-1, 0), BEYOND);
    }

    private static void lawsAsKinds() {
        promise = 8;
        boolean[][] isOf = new boolean[7][7];
        int[][] pairs = {{1, 0}, {2, 0}, {3, 0}, {5, 0}, {4, 3}, {4, 0}, {6, 5}, {6, 0}};
        for (int[] p : pairs) {
            isOf[p[0]][p[1]] = true;
        }
        for (int kind = 0; kind < 7; kind++) {
            isOf[kind][kind] = true;
            SmokeRings s = new SmokeRings();
            s.law(kind, 30 + kind);
            for (int as = 0; as < 7; as++) {
                due("as(" + kind + ", " + as + ")", s.as(0, as), isOf[kind][as] ? 30 + kind : KIND);
            }
            due("kind 7", s.as(0, 7), BEYOND);
            due("kind -1", s.as(0, -1), BEYOND);
            due("law 1", s.as(1, 0), BEYOND);
            due("law -1", s.as(-1, 0), BEYOND);
        }
    }

    private static void turningLaws() {
        promise = 9;
        SmokeRings s = new SmokeRings();
        s.law(5, 60);
        s.law(5, 60);
        due("off", s.turn(1, 0), 1);
        due("off again", s.turn(1, 0), 0);
        due("only that one", s.ofLaw(0, 2), 1);
        due("on", s.turn(1, 1), 0);
        due("on again", s.turn(1, 1), 1);
        due("on 2", s.turn(1, 2), BEYOND);
        due("on -1", s.turn(1, -1), BEYOND);
        due("law 2", s.turn(2, 1), BEYOND);
        due("law -1", s.turn(-1, 1), BEYOND);
        plain(s, 0, 1, 40);
        s.wall(50);
        due("both on", s.then(1, 0, 4), 20 + 40 + 40);
        s.turn(0, 0);
        due("one on", s.then(1, 0, 4), 20 + 40);
    }

    private static void whatLawsDo() {
        promise = 10;
        SmokeRings s = new SmokeRings();
        for (int kind = 0; kind < 6; kind++) {
            s.law(kind, 20);
        }
        SmokeRings slanted = new SmokeRings();
        slanted.law(6, 21);
        SmokeRings[] both = {s, slanted};
        for (SmokeRings each : both) {
            plain(each, 0, 1, 100);                        // 0
            each.ring(xy(-20, 5), 1, 120, 1603);           // 1: behind 0
            each.ring(xy(-6, 5), 1, 77, 1603);             // 2: behind 0, closer than both are thick
            each.ring(xy(-6, 41), 1, 77, 2003);            // 3: not near 0
            each.ring(xy(5, -39), -1, 90, 2003);           // 4: toward 0, near
            each.ring(xy(21, 0), -1, 90, 15003);           // 5: wide, toward 0
        }
        int[] onFirst = {80, 80, 80, 0, 0, 0};
        int[] onSecond = {-66, -66, -66, 0, 0, 0};
        int[] toward = {0, 0, 0, 120, 120, 0};
        for (int law = 0; law < 6; law++) {
            due("widens 0 by 1", s.does(law, 0, 1, 0), onFirst[law]);
            due("widens 1 by 0", s.does(law, 1, 0, 0), onSecond[law]);
            due("widens 0 by 2", s.does(law, 0, 2, 0), onFirst[law] == 0 ? 0 : law == 1 ? 192 : 96);
            due("widens 2 by 0", s.does(law, 2, 0, 0), onFirst[law] == 0 ? 0 : law == 1 ? -250 : -125);
            due("widens 0 by 3", s.does(law, 0, 3, 0), 0);
            due("widens 0 by 4", s.does(law, 0, 4, 0), toward[law]);
            due("widens 4 by 0", s.does(law, 4, 0, 0), law == 3 || law == 4 ? 133 : 0);
        }
        due("slanted widens", slanted.does(0, 0, 1, 0), 0);
        due("joins what is behind", s.does(2, 1, 0, 1), 1);
        due("joins nothing in front", s.does(2, 0, 1, 1), 0);
        due("joins nothing that isn't near", s.does(2, 3, 0, 1), 0);
        due("joins nothing of another way", s.does(2, 4, 0, 1), 0);
        due("joins nothing farther than m", s.does(2, 5, 4, 1), 1);
        s.end(5);
        due("also who is gone", s.does(2, 5, 4, 1), 1);
        for (int law = 0; law < 6; law++) {
            due("tears the wide", s.does(law, 5, 0, 1), law == 4 ? 1 : 0);
            due("tears none less wide", s.does(law, 0, 5, 1), 0);
        }
        s.wall(89);
        slanted.wall(-89);
        int[] spread = {0, 0, 0, 0, 0, 20};
        for (int law = 0; law < 6; law++) {
            due("spreads", s.does(law, 0, 0, 2), spread[law]);
            due("lifts", s.does(law, 0, -5, 3), 0);
        }
        due("slanted spreads", slanted.does(0, 0, 99, 2), 10);
        due("slanted lifts", slanted.does(0, 0, 99, 3), 10);
        s.wall(99);
        due("99 far", s.does(5, 0, 0, 2), 2000 / 109);
        s.wall(-100);
        due("100 far", s.does(5, 0, 0, 2), 0);
        due("what 4", s.does(0, 0, 1, 4), BEYOND);
        due("what -1", s.does(0, 0, 1, -1), BEYOND);
        due("law 6", s.does(6, 0, 1, 0), BEYOND);
        due("law -1", s.does(-1, 0, 1, 0), BEYOND);
        due("ring 6", s.does(0, 6, 1, 0), BEYOND);
        due("ring -1", s.does(0, -1, 1, 2), BEYOND);
        due("other 6", s.does(0, 0, 6, 0), BEYOND);
        due("other -1", s.does(0, 0, -1, 1), BEYOND);
        due("itself", s.does(0, 0, 0, 0), BEYOND);
        due("itself", s.does(0, 0, 0, 1), BEYOND);
    }

    private static void edgesOfLaws() {
        promise = 10;
        SmokeRings s = new SmokeRings();
        s.law(1, 50);
        s.law(2, 20);
        s.law(4, 1);
        s.ring(xy(0, 0), 1, 90, 14904);
        s.ring(xy(-6, -100), 1, 90, 15003);
        s.ring(xy(-7, 199), 1, 90, 5003);
        s.ring(xy(-21, 0), 1, 90, 15003);
        due("closer than both are thick: 2 * (4500 / 16)", s.does(0, 0, 1, 0), 562);
        due("as far as both are thick: not near", s.does(0, 0, 2, 0), 0);
        due("farther than both are thick", s.does(0, 1, 3, 0), 180);
        due("150 wide", s.does(2, 1, 0, 1), 1);
        due("149 wide", s.does(2, 0, 1, 1), 0);
        due("wide, but not near", s.does(2, 1, 2, 1), 0);
        due("m far", s.does(1, 3, 1, 1), 1);
        due("farther than m", s.does(1, 3, 0, 1), 0);
        SmokeRings seven = new SmokeRings();
        seven.law(1, 50);
        seven.ring(xy(0, 0), -1, 90, 2004);
        seven.ring(xy(7, 0), -1, 90, 2003);
        due("as far as both are thick: once", seven.does(0, 0, 1, 0), 264);
        due("likewise behind", seven.does(0, 1, 0, 0), -264);
    }

    private static void pairs() {
        promise = 11;
        SmokeRings s = new SmokeRings();
        s.ring(xy(0, 0), 1, 1, 1001);
        s.ring(xy(-30, 19), 1, 1, 1001);
        s.ring(xy(-30, -20), 1, 1, 1001);
        s.ring(xy(0, 0), -1, 1, 1001);
        s.ring(xy(30, 0), -1, 1, 1001);
        due("gap", s.pair(0, 1, 0), 30);
        due("gap", s.pair(1, 0, 0), 30);
        due("near", s.pair(0, 1, 1), 1);
        due("just not near", s.pair(2, 0, 1), 0);
        due("behind", s.pair(1, 0, 2), 1);
        due("not behind", s.pair(0, 1, 2), 0);
        due("of like X the greater is behind", s.pair(2, 1, 2), 1);
        due("of like X the less is not", s.pair(1, 2, 2), 0);
        due("behind to less X", s.pair(4, 3, 2), 1);
        due("not behind to less X", s.pair(3, 4, 2), 0);
        due("unlike ways", s.pair(3, 0, 2), 0);
        due("unlike ways", s.pair(1, 4, 2), 0);
        s.end(1);
        due("also gone", s.pair(1, 0, 2), 1);
        due("one twice", s.pair(1, 1, 0), BEYOND);
        due("what 3", s.pair(0, 1, 3), BEYOND);
        due("what -1", s.pair(0, 1, -1), BEYOND);
        due("ring 5", s.pair(5, 0, 0), BEYOND);
        due("ring -1", s.pair(0, -1, 0), BEYOND);
    }

    private static void hole() {
        promise = 12;
        SmokeRings s = new SmokeRings();
        due("hole", s.hole(50), 10);
        due("hole", s.hole(1), 50);
        due("0", s.hole(0), BEYOND);
        due("51", s.hole(51), BEYOND);
        due("stays", s.count(4), 1);
    }

    private static void strokes() {
        promise = 13;
        SmokeRings s = new SmokeRings();
        due("stroke", s.stroke(39, 99), 0);
        traits("short", s, 0, 0, 0, 1, 99 * 39 / 4, 10, 3, 1);
        due("stroke", s.stroke(40, 99), 1);
        traits("long", s, 1, 0, 0, 1, 990, 10, 3, 1);
        s.hole(50);
        due("stroke", s.stroke(400, 99), 2);
        traits("held", s, 2, 0, 0, 1, 999, 50, 11, 1);
        s.hole(1);
        due("stroke", s.stroke(1, 1), 3);
        traits("nothing turns", s, 3, 0, 0, 1, 0, 1, 1, 1);
        text(s, 0, "l+q*h");
        due("stroke", s.stroke(7, 5), 4);
        due("by a text", s.ofRing(4, 3), 12);
        int[][] beyond = {{0, 1}, {401, 1}, {1, 0}, {1, 100}, {LEAST, MOST}};
        for (int[] b : beyond) {
            due("beyond", s.stroke(b[0], b[1]), BEYOND);
        }
        for (int i = 5; i < 8; i++) {
            due("stroke", s.stroke(1, 1), i);
        }
        due("a ninth", s.stroke(1, 1), FULL);
        due("a ninth beyond", s.stroke(1, 0), BEYOND);
    }

    private static void trails() {
        promise = 14;
        SmokeRings s = new SmokeRings();
        due("40", s.trails(40), 0);
        due("41", s.trails(41), 1);
        due("1", s.trails(1), 0);
        due("400", s.trails(400), 360);
        s.hole(50);
        due("400", s.trails(400), 200);
        due("0", s.trails(0), BEYOND);
        due("401", s.trails(401), BEYOND);
    }

    private static void feeding() {
        promise = 15;
        SmokeRings s = new SmokeRings();
        due("n 0", s.feed(1, 0), BEYOND);
        due("n 9", s.feed(1, 9), BEYOND);
        due("n -1", s.feed(1, -1), BEYOND);
        for (int i = 1; i <= 5; i++) {
            due("8 bytes", s.feed(0x3131313131313131L, 8), 8 * i);
        }
        due("7", s.feed(0, 7), 47);
        due("4 more", s.feed(0, 4), FULL);
        due("beyond is asked first", s.feed(0, 9), BEYOND);
        due("3 more", s.feed(0, 3), 50);
        due("1 more", s.feed(0, 1), FULL);
        due("bytes", s.count(5), 50);
        SmokeRings low = new SmokeRings();
        low.feed(0x7777777777372d38L, 3);
        due("the lowest first, no more than n", low.text(0), 1);
        due("8-7", low.gives(0, 0, 0, 0), 1);
        low.feed(0x9031303030303030L, 8);
        due("a byte above 127", low.text(0), -10 - 4);
    }

    private static void texts() {
        promise = 16;
        SmokeRings s = new SmokeRings();
        due("text", text(s, 0, "l"), 1);
        due("empty then", s.count(5), 0);
        due("it gives", s.gives(0, 77, 0, 0), 77);
        due("in its place", text(s, 0, "q"), 1);
        due("it gives", s.gives(0, 77, 5, 0), 5);
        s.feed('h', 1);
        due("use 2", s.text(2), BEYOND);
        due("use -1", s.text(-1), BEYOND);
        due("the tape stays", s.count(5), 1);
        due("no name of this use", s.text(1), -10);
        due("empty then, too", s.count(5), 0);
        due("the one ahead stays", s.gives(0, 77, 5, 0), 5);
        due("the other use is as it was", s.gives(1, 100, 100, 0), 3);
        due("a fault", text(s, 0, "h+"), -12);
        due("the one ahead stays", s.gives(0, 77, 5, 0), 5);
        due("nothing at all", s.text(0), -10);
        due("faults are no errors", s.told(1), 2);
        due("50 bytes", text(s, 0, "1+1+1+1+1+1+1+1+1+1+1+1+1+1+1+1+1+1+1+1+1+1+1+1+10"), 1);
        due("it gives", s.gives(0, 0, 0, 0), 34);
    }

    private static void faults() {
        promise = 16;
        Object[][] texts = {{"l<q<h", 3}, {"l=q>h", 3}, {"l<q|l<h&q=h", -1}, {"(l<q)<h", -1}, {"12345", 4}, {"0000", -1},
            {"!!!!!l", -1}, {"!!!!!!l", 5}, {"((((((l", 5}, {"(((((l)))))", -1}, {"(((((l))))", 10}, {"!(!(!l))", -1},
            {"!(!(!(l", 5}, {"!l+!q+!h+!l+!q+!h", -1}, {"!l*(!(q))*(((((h)))))", -1}, {"!!!!!l+!!!!!(", 12}, {"l)", 1}, {"()", 1}, {"-1", 0},
            {"1+-1", 2}, {"l q", 1}, {"lq", 1}, {"1l", 1}, {"l1", 1}, {"(1)1", 3}, {"1!", 1}, {"1(", 1}, {"t", 0},
            {"l|", 2}, {"|", 0}, {"1==1", 2}, {"L", 0}, {"1%2*3/4", -1}, {"!", 1}, {"(1", 2}, {"1\u0000", 1},
            {"\u00ff", 0}, {"(1<2", 4}, {"((1)", 4}, {"(1))", 3}};
        for (Object[] t : texts) {
            int fault = (Integer) t[1];
            due("text " + t[0], text(new SmokeRings(), 0, (String) t[0]), fault < 0 ? 1 : -10 - fault);
        }
    }

    private static void giving() {
        promise = 17;
        SmokeRings s = new SmokeRings();
        due("stroke", s.gives(0, 39, 20, 10), 195);
        due("stroke", s.gives(0, 40, 20, 10), 200);
        due("held", s.gives(0, 100, 99, 50), 999);
        due("held", s.gives(0, 5, -20, 10), 0);
        due("wraps: 2^30 * 4 is 0, and 4 isn't less", s.gives(0, 4, 1, 1 << 30), 999);
        due("wraps: 2^16 * (2^16 + 1) is 2^16", s.gives(0, 65537, 65536, 20000), 999);
        due("wraps: 2^30 * 4 is 0", s.gives(0, 4, 1 << 30, 20), 0);
        due("loss", s.gives(1, 999, 200, 50), 21);
        due("loss", s.gives(1, 49, 99, 50), 0);
        due("loss, held", s.gives(1, -5000, 99, 50), 0);
        due("use 2", s.gives(2, 0, 0, 0), BEYOND);
        due("use -1", s.gives(-1, 0, 0, 0), BEYOND);
        Object[][] texts = {{"7-3-2", 2}, {"100/7/2", 7}, {"100/7*2", 28}, {"17%7*2", 6}, {"1+2*3", 7}, {"(1+2)*3", 9},
            {"5/0", 0}, {"5%0", 0}, {"7+5/0", 7}, {"0-7", 0}, {"100+(0-7)/2", 97}, {"100+(0-7)%2", 99}, {"!5", 0}, {"!0", 1}, {"!!5", 1},
            {"!0+1", 2}, {"!(0+1)", 0}, {"3<4", 1}, {"4<4", 0}, {"4=4", 1}, {"4=3", 0}, {"4>3", 1}, {"4>4", 0}, {"1+1<3", 1}, {"1+(1<3)", 2},
            {"2|0", 1}, {"0|0", 0}, {"2&4", 1}, {"2&0", 0}, {"1|0&0", 1}, {"(1|0)&0", 0}, {"1&2=1", 0}, {"2=2=0", -1},
            {"l*100+q*10+h", 345}, {"9999*9999*9999*9999*9999/8000/1000", 149}, {"9999", 999}, {"0999", 999}, {"65536*65536*0", -1}};
        for (Object[] t : texts) {
            int want = (Integer) t[1];
            SmokeRings each = new SmokeRings();
            if (want < 0) {
                due("no text: " + t[0], text(each, 0, (String) t[0]) < 0 ? 1 : 0, 1);
            } else {
                due("text " + t[0], text(each, 0, (String) t[0]), 1);
                due((String) t[0], each.gives(0, 3, 4, 5), want);
            }
        }
        SmokeRings loss = new SmokeRings();
        text(loss, 1, "t*100+w*10+k");
        due("names of a loss", loss.gives(1, 3, 4, 5), 345);
        text(loss, 1, "(t/w)*0+(t/w<0)*7+(t%w=0)*2");
        due("the least by -1", loss.gives(1, LEAST, -1, 0), 9);
    }

    private static void ticks() {
        promise = 18;
        SmokeRings s = new SmokeRings();
        due("n 0", s.ticks(0), BEYOND);
        due("n 101", s.ticks(101), BEYOND);
        due("n -1", s.ticks(-1), BEYOND);
        plain(s, 0, 1, 100);
        plain(s, 1000, -1, 100);
        due("a tick", s.ticks(1), 1);
        traits("forth", s, 0, 30, 0, 1, 98, 20, 4, 1, 29);
        traits("back", s, 1, 970, 0, -1, 98, 20, 4, 1, 29);
        due("two more", s.ticks(2), 3);
        traits("forth", s, 0, 88, 0, 1, 96, 20, 4, 1, 28);
        SmokeRings edge = new SmokeRings();
        edge.ring(xy(99990, 0), 1, 100, 2004);
        edge.ring(xy(-99990, 0), -1, 100, 2004);
        edge.ticks(1);
        due("held", edge.ofRing(0, 0), 99999);
        due("held", edge.ofRing(1, 0), -99999);
        SmokeRings two = new SmokeRings();
        plain(two, 0, 1, 100);
        two.ring(xy(-20, 5), 1, 120, 1603);
        two.law(0, 10);
        two.law(1, 6);
        two.ticks(1);
        due("wider by both laws: 40 and 24", two.ofRing(0, 4), 84);
        due("narrower by both laws: 33 and 20, held", two.ofRing(1, 4), 1);
        due("by what was ahead", two.ofRing(1, 0), 25);
        due("thick stays", two.ofRing(1, 5), 3);
        two.end(1);
        int wide = two.ofRing(0, 4);
        two.ticks(1);
        due("who is gone draws no one", two.ofRing(0, 4), wide);
        due("who is gone stays", two.ofRing(1, 0), 25);
        SmokeRings gone = new SmokeRings();
        gone.ring(xy(0, 0), 1, 0, 2004);
        gone.ring(xy(0, 0), 1, 1, 10050);
        due("whole as long as no tick goes by", gone.count(2), 2);
        gone.ticks(1);
        due("who doesn't turn is gone", gone.count(2), 0);
    }

    private static void lossesAndLifts() {
        promise = 18;
        SmokeRings s = new SmokeRings();
        s.law(6, 21);
        s.law(6, 42);
        s.law(5, 21);
        s.wall(60);
        s.ring(xy(0, 5), 1, 100, 2004);
        s.ticks(1);
        due("lifted by 15 and 30", s.ofRing(0, 1), 50);
        due("wider by 15, 30 and 30", s.ofRing(0, 4), 95);
        SmokeRings high = new SmokeRings();
        high.law(6, 99);
        high.wall(0);
        high.ring(xy(0, 990), 1, 999, 2004);
        high.ticks(1);
        due("held", high.ofRing(0, 1), 999);
        due("held", high.ofRing(0, 4), 200);
        SmokeRings loss = new SmokeRings();
        text(loss, 1, "t/10+w*10-k");
        plain(loss, 0, 1, 300);
        plain(loss, 500, -1, 100);
        loss.ticks(1);
        due("30 and 200 less 4", loss.ofRing(0, 3), 74);
        due("held at 0, and gone", loss.ofRing(1, 3), 0);
        due("held at 0, and gone", loss.ofRing(1, 6), 0);
        text(loss, 1, "0-t");
        loss.ticks(1);
        due("no loss is below 0", loss.ofRing(0, 3), 74);
    }

    private static void joiningAndTearing() {
        promise = 18;
        SmokeRings s = new SmokeRings();
        plain(s, 0, 1, 100);
        s.ring(xy(-20, 5), 1, 120, 1603);
        s.law(2, 25);
        s.ticks(1);
        traits("who was joined", s, 0, 30, 0, 1, 98 + 118, 120, 4, 1);
        traits("who joined", s, 1, 25, 5, 1, 118, 1, 3, 0);
        SmokeRings chain = new SmokeRings();
        for (int i = 0; i < 3; i++) {
            plain(chain, 10 * i, 1, 100);
        }
        chain.law(2, 10);
        chain.ticks(1);
        due("0 joins 1, then 1 joins 2 with all of it", chain.ofRing(2, 3), 294);
        due("whole", chain.count(2), 1);
        SmokeRings back = new SmokeRings();
        for (int i = 0; i < 3; i++) {
            plain(back, -10 * i, 1, 100);
        }
        back.law(2, 10);
        back.ticks(1);
        due("2 joins 1, which is gone already", back.ofRing(0, 3), 196);
        due("1 gets nothing then", back.ofRing(1, 3), 98);
        due("whole", back.count(2), 1);
        SmokeRings much = new SmokeRings();
        plain(much, 0, 1, 900);
        plain(much, 0, 1, 800);
        much.law(2, 0);
        much.ticks(1);
        due("held", much.ofRing(0, 3), 999);
        int[][] orders = {{4, 2, 98}, {2, 4, 98 + 97}};
        for (int[] order : orders) {
            SmokeRings torn = new SmokeRings();
            plain(torn, 0, 1, 100);
            torn.ring(xy(0, 0), 1, 100, 15004);
            torn.law(order[0], 0);
            torn.law(order[1], 0);
            torn.ticks(1);
            due("the first law that ends it", torn.ofRing(0, 3), order[2]);
            due("it is gone", torn.ofRing(1, 6), 0);
        }
        SmokeRings first = new SmokeRings();
        first.ring(xy(100, 0), 1, 100, 2004);
        first.ring(xy(0, 0), 1, 100, 15004);
        first.ring(xy(0, 0), 1, 100, 2004);
        first.law(2, 0);
        first.law(4, 0);
        first.ticks(1);
        due("1 is torn by 0, the first other one, though 2 joins it", first.ofRing(0, 3), 98);
        due("2 was behind 1, and joins one that is gone", first.ofRing(2, 6), 0);
        due("whole", first.count(2), 1);
        SmokeRings saved = new SmokeRings();
        plain(saved, 0, 1, 0);
        plain(saved, 0, 1, 40);
        saved.law(2, 0);
        saved.ticks(1);
        due("who gets some turning stays", saved.ofRing(0, 6), 1);
        due("who gets some turning stays", saved.ofRing(0, 3), 40);
        SmokeRings off = new SmokeRings();
        plain(off, 0, 1, 100);
        plain(off, 0, 1, 100);
        off.law(2, 0);
        off.turn(0, 0);
        off.ticks(1);
        due("a law that is off ends no one", off.count(2), 2);
    }

    private static void atTheWall() {
        promise = 18;
        SmokeRings s = new SmokeRings();
        s.wall(60);
        plain(s, 50, 1, 40);
        plain(s, 70, -1, 40);
        plain(s, 200, 1, 40);
        plain(s, 48, 1, 40);
        plain(s, 300, -1, 40);
        plain(s, 500, 1, 0);
        s.ticks(1);
        due("at the wall", s.ofRing(0, 0), 60);
        due("through it to less X", s.ofRing(1, 0), 58);
        due("from beyond", s.ofRing(2, 0), 60);
        due("just there", s.ofRing(3, 0), 60);
        due("beyond it to less X", s.ofRing(4, 0), 288);
        due("who is gone is not", s.ofRing(5, 0), 500);
    }

    private static void lastTick() {
        promise = 18;
        SmokeRings s = new SmokeRings();
        plain(s, 0, 1, 4);
        for (int i = 1; i <= 99; i++) {
            due("ticks", s.ticks(100), 100 * i);
        }
        due("one too many", s.ticks(100), STATE);
        due("one too many", s.breeze(100), STATE);
        due("n is asked first", s.ticks(101), BEYOND);
        due("the last", s.ticks(99), 9999);
        due("no more", s.ticks(1), STATE);
        due("where it is", s.ofRing(0, 0), 9999);
        due("ahead goes beyond", s.then(60, 0, 0), 10059);
        due("now", s.count(0), 9999);
    }

    private static void breezes() {
        promise = 19;
        SmokeRings s = new SmokeRings();
        plain(s, 0, 1, 40);
        plain(s, 0, 1, 40);
        plain(s, 0, 1, 40);
        s.end(1);
        s.seed(7);
        due("breeze", s.breeze(2), 2);
        int z = 7;
        int[] y = new int[3];
        for (int i = 0; i < 2; i++) {
            for (int k = 0; k < 3; k += 2) {
                z = z * 1103515245 + 12345;
                y[k] += (z >>> 8) % 7 - 3;
            }
        }
        due("z", s.count(8), z);
        for (int k = 0; k < 3; k++) {
            due("y", s.ofRing(k, 1), y[k]);
        }
        due("x", s.ofRing(0, 0), 24);
        due("n 0", s.breeze(0), BEYOND);
        due("n 101", s.breeze(101), BEYOND);
        due("no draw", s.count(8), z);
        s.ticks(3);
        due("ticks draw nothing", s.count(8), z);
        SmokeRings high = new SmokeRings();
        high.ring(xy(0, 999), 1, 40, 2004);
        high.ring(xy(0, -999), 1, 40, 2004);
        for (int i = 0; i < 20; i++) {
            high.breeze(1);
            due("held", high.ofRing(0, 1) <= 999 && high.ofRing(1, 1) >= -999 ? 1 : 0, 1);
        }
        SmokeRings dying = new SmokeRings();
        plain(dying, 0, 1, 0);
        dying.breeze(1);
        due("who is gone behind the tick has no draw", dying.count(8), 1);
    }

    private static void front() {
        promise = 20;
        SmokeRings s = new SmokeRings();
        due("none", s.front(), NONE);
        plain(s, 5, 1, 40);
        due("alone", s.front(), 0);
        plain(s, 9, -1, 40);
        plain(s, 9, 1, 40);
        due("of several the least", s.front(), 1);
        s.end(1);
        due("whole ones alone", s.front(), 2);
        s.end(2);
        s.end(0);
        due("none is whole", s.front(), NONE);
    }

    private static void then() {
        promise = 21;
        SmokeRings s = new SmokeRings();
        plain(s, 0, 1, 100);
        due("now", s.then(0, 0, 0), 0);
        int[] three = {88, 0, 1, 96, 20, 4, 1, 28};
        for (int i = 0; i < 8; i++) {
            due("what " + i, s.then(3, 0, i), three[i]);
        }
        due("nothing has changed", s.ofRing(0, 0), 0);
        due("nothing has changed", s.count(0), 0);
        due("n 61", s.then(61, 0, 0), BEYOND);
        due("n -1", s.then(-1, 0, 0), BEYOND);
        due("ring 1", s.then(0, 1, 0), BEYOND);
        due("ring -1", s.then(0, -1, 0), BEYOND);
        due("what 8", s.then(0, 0, 8), BEYOND);
        due("what -1", s.then(0, 0, -1), BEYOND);
    }

    private static void whole() {
        promise = 22;
        SmokeRings s = new SmokeRings();
        due("none", s.whole(60), 0);
        text(s, 1, "10");
        plain(s, 0, 1, 20);
        plain(s, 0, 1, 31);
        due("0", s.whole(0), 2);
        due("1", s.whole(1), 2);
        due("2", s.whole(2), 1);
        due("3", s.whole(3), 1);
        due("4", s.whole(4), 0);
        due("61", s.whole(61), BEYOND);
        due("-1", s.whole(-1), BEYOND);
    }

    private static void turns() {
        promise = 23;
        SmokeRings s = new SmokeRings();
        due("none", s.turns(60), 0);
        plain(s, 0, 1, 40);
        plain(s, -10, 1, 49);
        due("like X: the least is in front still", s.turns(5), 0);
        due("passed", s.turns(6), 1);
        due("passed once", s.turns(60), 1);
        due("61", s.turns(61), BEYOND);
        due("-1", s.turns(-1), BEYOND);
        SmokeRings lost = new SmokeRings();
        text(lost, 1, "(w=10)*15");
        plain(lost, 0, 1, 40);
        lost.stroke(40, 3);
        due("forth", lost.turns(1), 1);
        due("and back", lost.turns(2), 2);
        SmokeRings gone = new SmokeRings();
        plain(gone, 0, 1, 0);
        due("none behind it", gone.turns(5), 0);
    }

    private static void far() {
        promise = 24;
        SmokeRings s = new SmokeRings();
        plain(s, 7, 1, 100);
        plain(s, 5, -1, 100);
        due("0", s.far(0, 0), 7);
        due("3", s.far(3, 0), 95);
        due("back", s.far(3, 1), 5);
        s.wall(40);
        due("wall", s.far(3, 0), 40);
        s.wall(-50);
        due("from beyond the wall", s.far(3, 0), 7);
        SmokeRings dying = new SmokeRings();
        text(dying, 1, "60");
        plain(dying, 0, 1, 100);
        due("where it isn't whole is not far", dying.far(9, 0), 30);
        dying.end(0);
        due("gone", dying.far(0, 0), NONE);
        due("n 61", s.far(61, 0), BEYOND);
        due("n -1", s.far(-1, 0), BEYOND);
        due("ring 2", s.far(0, 2), BEYOND);
        due("ring -1", s.far(0, -1), BEYOND);
        due("beyond is asked first", dying.far(61, 0), BEYOND);
    }

    private static void knock() {
        promise = 25;
        SmokeRings s = new SmokeRings();
        plain(s, 0, 1, 100);
        due("now", s.knock(0, 0, 0), 500);
        due("now, too", s.knock(9, 0, -99999), 500);
        due("in tick 1", s.knock(9, 0, 30), 490);
        due("in tick 2", s.knock(9, 0, 31), 485);
        due("in tick 2", s.knock(2, 0, 59), 485);
        due("not by then", s.knock(2, 0, 60), NONE);
        due("not by then", s.knock(1, 0, 59), NONE);
        due("X 100000", s.knock(1, 0, 100000), BEYOND);
        due("X -100000", s.knock(1, 0, -100000), BEYOND);
        due("n 61", s.knock(61, 0, 0), BEYOND);
        due("n -1", s.knock(-1, 0, 0), BEYOND);
        due("ring 1", s.knock(0, 1, 0), BEYOND);
        due("ring -1", s.knock(0, -1, 0), BEYOND);
        s.end(0);
        due("gone", s.knock(9, 0, 0), NONE);
        SmokeRings dying = new SmokeRings();
        text(dying, 1, "60");
        plain(dying, 0, 1, 100);
        due("it gets there, but isn't whole", dying.knock(9, 0, 31), NONE);
    }

    private static void farthest() {
        promise = 26;
        SmokeRings s = new SmokeRings();
        plain(s, 5000, 1, 900);
        due("0", s.farthest(0, 40, 20), 101);
        due("1", s.farthest(1, 2, 4), 204);
        due("of several the shortest, then the least quick", s.farthest(1, 4, 5), 404);
        due("like far", s.farthest(1, 1, 9), 108);
        s.wall(1);
        due("as far as the wall", s.farthest(9, 40, 20), 108);
        s.wall(0);
        due("as far as the wall", s.farthest(9, 40, 20), 101);
        s.wall(-9);
        due("the wall is behind", s.farthest(9, 40, 20), 101);
        s.wall(99999);
        text(s, 0, "(l=3)*(q=7)*50");
        due("by a text", s.farthest(2, 40, 20), 307);
        due("nothing has changed", s.count(1), 1);
        due("nothing has changed", s.ofRing(0, 0), 5000);
        int[][] beyond = {{61, 1, 1}, {-1, 1, 1}, {1, 41, 1}, {1, 0, 1}, {1, 1, 21}, {1, 1, 0}};
        for (int[] b : beyond) {
            due("beyond", s.farthest(b[0], b[1], b[2]), BEYOND);
        }
        SmokeRings law = new SmokeRings();
        law.law(5, 99);
        law.wall(20);
        text(law, 0, "q*10");
        due("laws slow them: 10 * 5 / 10 by itself", law.farthest(1, 1, 1), 101);
    }

    private static void second() {
        promise = 27;
        SmokeRings s = new SmokeRings();
        due("alone", s.second(60, 20, 40), NONE);
        text(s, 1, "(w=10)*15");
        plain(s, 0, 1, 40);
        due("behind none", s.second(2, 0, 40), 3);
        due("too soon", s.second(1, 0, 40), NONE);
        due("behind 1", s.second(4, 1, 40), 5);
        due("too soon", s.second(3, 1, 40), NONE);
        due("nothing has changed", s.count(1), 1);
        text(s, 0, "(q=99)*30");
        due("the quickest", s.second(2, 0, 40), 99);
        text(s, 0, "30");
        due("the least quick", s.second(2, 0, 1), 1);
        due("the longest", s.second(2, 0, 400), 1);
        int[][] beyond = {{61, 0, 1}, {-1, 0, 1}, {0, 21, 1}, {0, -1, 1}, {0, 0, 0}, {0, 0, 401}};
        for (int[] b : beyond) {
            due("beyond", s.second(b[0], b[1], b[2]), BEYOND);
        }
        for (int i = 1; i < 8; i++) {
            plain(s, 0, 1, 40);
        }
        due("8 rings", s.second(2, 0, 40), FULL);
        due("beyond is asked first", s.second(2, 0, 0), BEYOND);
    }

    private static void alike() {
        promise = 28;
        SmokeRings s = new SmokeRings();
        due("no laws", s.alike(60, 500), NONE);
        s.law(0, 20);
        plain(s, 9000, 1, 900);
        due("in 2 ticks", s.alike(2, 40), 27);
        due("in 1 tick", s.alike(1, 40), NONE);
        due("in none", s.alike(0, 999), NONE);
        due("nothing turns", s.alike(60, 0), NONE);
        due("61", s.alike(61, 1), BEYOND);
        due("-1", s.alike(-1, 1), BEYOND);
        due("v 1000", s.alike(1, 1000), BEYOND);
        due("v -1", s.alike(1, -1), BEYOND);
        due("nothing has changed", s.count(1), 1);
        text(s, 1, "(t<40)*40");
        due("all that is less is lost", s.alike(2, 40), 0);
        SmokeRings many = new SmokeRings();
        many.law(0, 99);
        due("99 at most", many.alike(9, 900), 99);
        due("v at most", many.alike(9, 9) <= 9 ? 1 : 0, 1);
        SmokeRings wall = new SmokeRings();
        wall.wall(-30);
        text(wall, 1, "0");
        wall.law(5, 0);
        due("both at the wall, the least is in front", wall.alike(9, 40), NONE);
        SmokeRings no = new SmokeRings();
        text(no, 1, "(t=40)*40");
        due("who is like v is lost: k 0 loses both", no.alike(9, 40), NONE);
    }

    private static void off() {
        promise = 29;
        SmokeRings s = new SmokeRings();
        due("sheet 4", s.off(4), BEYOND);
        due("sheet -1", s.off(-1), BEYOND);
        due("missing", s.off(0), NONE);
        s.sheet(0, 32, 3);
        due("no ring 0", s.off(0), NONE);
        plain(s, 0, 1, 40);
        numbers(s, 0, 10, 30, 36);
        due("2 and 6", s.off(0), 8);
        numbers(s, 0, MOST, LEAST, 36 - 999999);
        due("each held", s.off(0), 2999999);
        s.sheet(0, 32, 0);
        due("nothing", s.off(0), 0);
        s.sheet(1, 8, 1);
        s.put(1, 0, 0x7fffff00 + 200);
        due("8 bits, of which the first is the sign", s.off(1), 12 + 56);
        s.sheet(2, 16, 1);
        s.put(2, 0, 0x12340000 + 65535);
        due("16 bits, likewise", s.off(2), 13);
        numbers(s, 0, 0, 0, 0);
        text(s, 1, "20");
        due("only while it is whole", s.off(0), 12);
        s.end(0);
        due("gone", s.off(0), 0);
    }

    private static void spun() {
        promise = 30;
        SmokeRings s = new SmokeRings();
        due("sheet 4", s.spun(4), BEYOND);
        due("missing", s.spun(0), NONE);
        s.sheet(0, 32, 1);
        due("no ring 0", s.spun(0), NONE);
        plain(s, 0, 1, 99);
        s.put(0, 0, 29);
        due("without turning it is gone, and never off", s.spun(0), 0);
        plain(s, 0, 1, 10);
        s.law(2, 0);
        due("joined by another one it stays", s.spun(0), 99);
        s.put(0, 0, 5000);
        due("as near as it gets", s.spun(0), 999);
        s.put(0, 0, -5000);
        due("as near as it gets", s.spun(0), 0);
        s.put(0, 0, 4);
        due("9 * 6 / 20 is 2, 18 * 6 / 20 is 5", s.spun(0), 18);
        due("nothing has changed", s.ofRing(0, 3), 99);
    }

    private static void made() {
        promise = 31;
        SmokeRings s = new SmokeRings();
        due("sheet 4", s.made(4), BEYOND);
        due("missing", s.made(0), NONE);
        s.sheet(0, 32, 2);
        due("no ring 0", s.made(0), NONE);
        s.wall(50);
        plain(s, 0, 1, 40);
        due("no laws", s.made(0), 0);
        s.law(5, 30);
        s.law(5, 60);
        s.law(3, 60);
        numbers(s, 0, 12, 24);
        due("none", s.made(0), 0);
        numbers(s, 0, 12, 19);
        due("the first", s.made(0), 1);
        numbers(s, 0, 12, 16);
        due("the second, of several the least", s.made(0), 2);
        due("they stay on", s.ofLaw(0, 2), 1);
        s.turn(1, 0);
        due("also those that are off", s.made(0), 2);
    }

    private static void heart() {
        promise = 32;
        SmokeRings s = new SmokeRings();
        due("0", s.heart(0), BEYOND);
        due("10000", s.heart(10000), BEYOND);
        due("1", s.heart(1), 101);
        due("100", s.heart(100), 250);
        due("9999", s.heart(9999), 4099);
        text(s, 0, "l");
        due("how long, less what trails: 40 of them", s.heart(9999), 4001);
        due("as long as may be", s.heart(30), 3001);
        text(s, 0, "l*3");
        due("most at the end, held at 999", s.heart(9999), 33301);
        text(s, 0, "(l=400)*999");
        due("the longest", s.heart(9999), 40001);
        text(s, 0, "(l=1)*(q=99)");
        due("the quickest", s.heart(99), 199);
        due("not quite so much", s.heart(98), 101);
        text(s, 0, "0");
        due("none turns", s.heart(9999), 101);
    }

    private static void seed() {
        promise = 33;
        SmokeRings s = new SmokeRings();
        due("1", s.seed(LEAST), 1);
        due("any number", s.seed(-1000000001), LEAST);
        due("any number", s.seed(5), -1000000001);
        due("is no error", s.told(1), 0);
        due("z", s.count(8), 5);
    }

    private static void voices() {
        promise = 34;
        SmokeRings s = new SmokeRings();
        due("no law", s.voice(0, 0, 0), BEYOND);
        int[][] laws = {{0, 5}, {1, 6}, {2, 7}, {3, 8}, {4, 9}, {6, 3}};
        for (int[] law : laws) {
            s.law(law[0], law[1]);
        }
        int[][] answers = {{4, 8, -1, -9}, {5, 15, -2, -15}, {18, 36, -3, -39}, {7, 14, 4, 10}, {9, 18, 5, 16},
            {9, 23, 4, 4}};
        for (int law = 0; law < 6; law++) {
            for (int act = 0; act < 4; act++) {
                due("voice(" + law + ", " + act + ", 4)", s.voice(law, act, 4), answers[law][act]);
            }
        }
        due("goes round", s.voice(1, 0, MOST), LEAST);
        due("goes round", s.voice(0, 1, LEAST), 0);
        due("act 4", s.voice(0, 4, 0), BEYOND);
        due("act -1", s.voice(0, -1, 0), BEYOND);
        due("law 6", s.voice(6, 0, 0), BEYOND);
        due("law -1", s.voice(-1, 0, 0), BEYOND);
        SmokeRings walled = new SmokeRings();
        walled.law(0, 0);
        walled.law(5, 3);
        due("walled goes", walled.voice(1, 0, 4), 5);
        due("walled moves", walled.voice(1, 1, 4), 11);
        due("walled ends", walled.voice(1, 2, 4), 1);
        due("walled tells", walled.voice(1, 3, 4), 10);
    }

    private static void traces() {
        promise = 35;
        int[][] kinds = {{0, 13, 11, 10, 12}, {1, 13, 20, 11, 10, 12, 12}, {2, 13, 11, 30, 10, 12}, {3, 13, 11, 10, 40, 12},
            {4, 51, 13, 11, 50, 10, 40, 12, 50, 10}, {5, 13, 60, 11, 10, 12}, {6, 71, 60, 11, 10, 13, 60, 11, 10, 70, 12}};
        for (int[] kind : kinds) {
            SmokeRings s = new SmokeRings();
            s.law(kind[0], 1);
            due("none yet", s.trace(0), NONE);
            s.voice(0, 3, 1);
            for (int i = 1; i < kind.length; i++) {
                due("trace of " + kind[0], s.trace(i - 1), kind[i]);
            }
            due("no more", s.trace(kind.length - 1), NONE);
            due("bodies", s.count(7), kind.length - 1);
            due("-1", s.trace(-1), NONE);
            due("most", s.trace(MOST), NONE);
            s.voice(0, 9, 0);
            due("an error leaves it", s.count(7), kind.length - 1);
            s.voice(0, 2, 0);
            due("the latest alone", s.count(7), kind[0] == 3 || kind[0] == 4 || kind[0] == 6 ? 2 : 1);
        }
    }

    private static void sheets() {
        promise = 36;
        SmokeRings s = new SmokeRings();
        due("sheet", s.sheet(0, 8, 40), 1);
        due("sheet", s.sheet(3, 16, 0), 1);
        due("no numbers are no lack", s.put(3, 0, 1), BEYOND);
        due("sheet 4", s.sheet(4, 8, 1), BEYOND);
        due("sheet -1", s.sheet(-1, 8, 1), BEYOND);
        due("bits 7", s.sheet(0, 7, 1), BEYOND);
        due("bits -8", s.sheet(0, -8, 1), BEYOND);
        due("n 41", s.sheet(0, 8, 41), BEYOND);
        due("n -1", s.sheet(0, 8, -1), STATE);
        due("sheet and n", s.sheet(4, 8, -1), BEYOND);
        due("bits and n", s.sheet(0, 9, -1), BEYOND);
        due("it is as it was", s.put(0, 39, 1), 1);
        due("missing", s.sheet(0, 0, -1), 1);
        due("missing", s.put(0, 0, 0), NONE);
        due("missing", s.sheet(0, 0, 99), 1);
        plain(s, 0, 1, 40);
        numbers(s, 1, 50, 50);
        s.sheet(1, 32, 2);
        due("all 0 anew", s.off(1), 12 + 24);
    }

    private static void putting() {
        promise = 37;
        SmokeRings s = new SmokeRings();
        due("sheet 4", s.put(4, 0, 0), BEYOND);
        due("sheet -1", s.put(-1, 0, 0), BEYOND);
        due("missing", s.put(0, -1, 0), NONE);
        s.sheet(0, 16, 2);
        due("put", s.put(0, 0, 5), 1);
        due("put", s.put(0, 1, LEAST), 1);
        due("2", s.put(0, 2, 0), BEYOND);
        due("-1", s.put(0, -1, 0), BEYOND);
        plain(s, 0, 1, 40);
        due("5, and the lowest bits", s.off(0), 7 + 24);
    }

    private static void moving() {
        promise = 38;
        SmokeRings s = new SmokeRings();
        due("sheet 4", s.move(4, 0, 0, 0, 0), BEYOND);
        due("other -1", s.move(0, 0, -1, 0, 0), BEYOND);
        due("missing", s.move(0, 0, 1, 0, 0), NONE);
        numbers(s, 0, 10, 20, 30, 40);
        due("one is missing", s.move(0, 0, 1, 0, 0), NONE);
        due("one is missing", s.move(1, 0, 0, 0, 0), NONE);
        s.sheet(1, 16, 4);
        due("unlike bits", s.move(0, 0, 1, 0, -1), KIND);
        s.sheet(1, 32, 2);
        due("n -1", s.move(0, 0, 1, 0, -1), BEYOND);
        due("i -1", s.move(0, -1, 1, 0, 1), BEYOND);
        due("j -1", s.move(0, 0, 1, -1, 1), BEYOND);
        due("too many there", s.move(0, 0, 1, 0, 3), BEYOND);
        due("too many here", s.move(0, 3, 1, 0, 2), BEYOND);
        due("goes round", s.move(0, 1, 1, 0, MOST), BEYOND);
        due("goes round", s.move(0, MOST, 1, MOST, MOST), BEYOND);
        due("none at the end", s.move(0, 4, 1, 2, 0), 0);
        due("none beyond the end", s.move(0, 5, 1, 0, 0), BEYOND);
        due("move", s.move(0, 1, 1, 0, 2), 2);
        plain(s, 0, 1, 40);
        due("20, 30", s.off(1), 8 + 6);
        due("the same one, forward", s.move(0, 0, 0, 1, 3), 3);
        due("10, 10, 20, 30", s.off(0), 2 + 14 + 16 + 18);
        numbers(s, 0, 10, 20, 30, 40);
        due("the same one, back", s.move(0, 1, 0, 0, 3), 3);
        due("20, 30, 40, 40", s.off(0), 8 + 6 + 4 + 8);
    }

    private static void films() {
        promise = 39;
        SmokeRings s = new SmokeRings();
        due("sheet 4", s.film(4), BEYOND);
        due("sheet -1", s.film(-1), BEYOND);
        due("missing", s.film(0), NONE);
        s.sheet(0, 32, 3);
        due("no ring 0", s.film(0), NONE);
        plain(s, 0, 1, 40);
        due("film", s.film(0), 3);
        due("it is so", s.off(0), 0);
        due("nothing has changed", s.ofRing(0, 0), 0);
        due("nothing has changed", s.count(0), 0);
        s.ticks(1);
        due("12 behind, thrice", s.off(0), 36);
        text(s, 1, "(t=25)*25+(t=40)*15");
        s.film(0);
        text(s, 1, "0");
        due("24, then 0 where it is gone", s.off(0), 0 + 36 + 48);
        s.end(0);
        due("of one that is gone", s.film(0), 3);
        s.sheet(1, 8, 2);
        SmokeRings low = new SmokeRings();
        plain(low, 250, 1, 40);
        low.sheet(0, 8, 1);
        low.film(0);
        due("the lowest bits: 262 is 6", low.off(0), 256);
        low.sheet(0, 8, 0);
        due("none", low.film(0), 0);
    }

    private static void images() {
        promise = 40;
        SmokeRings s = new SmokeRings();
        s.ring(xy(7, 3), -1, 500, 3007);
        s.law(1, 5);
        s.law(6, 6);
        s.turn(0, 0);
        s.wall(44);
        s.hole(22);
        s.ticks(2);
        s.seed(99);
        text(s, 0, "q");
        text(s, 1, "3");
        s.feed(0x32, 1);
        s.tell(5);
        s.sheet(0, 8, 4);
        int x = s.ofRing(0, 0);
        due("image", s.image(), 1);
        plain(s, 0, 1, 40);
        s.end(0);
        s.law(0, 0);
        s.turn(0, 1);
        s.wall(1);
        s.hole(1);
        s.ticks(50);
        s.seed(1);
        text(s, 0, "l");
        text(s, 0, "l");
        text(s, 1, "4");
        s.tell(6);
        s.sheet(0, 0, 0);
        s.sheet(1, 8, 3);
        s.voice(0, 3, 0);
        s.front();
        int errors = s.told(2);
        promise = 41;
        for (int again = 0; again < 2; again++) {
            due("restore", s.restore(), 2);
            traits("ring", s, 0, x, s.ofRing(0, 1), -1, 481, s.ofRing(0, 4), 7, 1);
            int[] counts = {2, 1, 1, 2, 22, 1, 1, 6, 99};
            for (int i = 0; i < counts.length; i++) {
                due("count(" + i + ")", s.count(i), counts[i]);
            }
            due("off", s.ofLaw(0, 2), 0);
            due("on", s.ofLaw(1, 2), 1);
            due("kind", s.ofLaw(1, 0), 6);
            due("wall", s.wall(9), 44);
            due("text", s.gives(0, 1, 2, 3), 2);
            due("text", s.gives(1, 1, 2, 3), 3);
            due("the tape", s.text(0), 1);
            due("the tape had a 2", s.gives(0, 0, 0, 0), 2);
            s.ticks(1);
            due("sheets stay", s.put(0, 0, 0), NONE);
            due("sheets stay", s.put(1, 2, 0), 1);
            due("the trace stays", s.trace(0), 13);
            due("what is told stays", s.told(2), errors + 1 + again);
            s.law(4, 4);
        }
        due("image", s.image(), 2);
        due("image", s.image(), 3);
        s.ticks(5);
        due("the latest", s.restore(), 3);
        due("laws", s.count(3), 3);
        SmokeRings none = new SmokeRings();
        due("none", none.restore(), NONE);
        due("first", none.image(), 1);
        due("then", none.restore(), 0);
    }

    private static void telling() {
        promise = 42;
        SmokeRings s = new SmokeRings();
        for (int i = 1; i <= 20; i++) {
            due("tell", s.tell(i % 2 == 0 ? LEAST : MOST), i);
        }
        due("full", s.tell(0), FULL);
        due("20 wait", s.count(6), 20);
        s.check(0);
        due("anew", s.tell(0), 1);
    }

    private static int check(SmokeRings s, int n, int... numbers) {
        for (int number : numbers) {
            s.tell(number);
        }
        return s.check(n);
    }

    private static void checking() {
        promise = 43;
        SmokeRings s = new SmokeRings();
        due("none", check(s, 60), 0);
        due("one too many", check(s, 0, 0), 1);
        due("one that can't be", check(s, 0, -1), 1);
        plain(s, 0, 1, 40);
        plain(s, -10, 1, 49);
        plain(s, 0, -1, 40);
        plain(s, 900, 1, 40);
        s.end(3);
        due("now", check(s, 0, 0, 2, 1), 0);
        due("of like ones the least", check(s, 0, 2, 0, 1), 1);
        due("the last is missing", check(s, 0, 0, 2), 3);
        due("all are missing", check(s, 0), 1);
        due("one too many", check(s, 0, 0, 2, 1, 3), 4);
        due("not so", check(s, 0, 0, 1, 2), 2);
        due("like X ahead", check(s, 5, 0, 1, 2), 0);
        due("ahead", check(s, 6, 1, 0, 2), 0);
        due("none wait", s.count(6), 0);
        s.tell(0);
        due("61", s.check(61), BEYOND);
        due("none wait then", s.count(6), 0);
        s.tell(0);
        due("-1", s.check(-1), BEYOND);
        due("none wait then", s.count(6), 0);
        due("nothing has changed", s.count(2), 3);
    }

    private static void counting() {
        promise = 44;
        SmokeRings s = new SmokeRings();
        plain(s, 0, 1, 40);
        plain(s, 0, 1, 40);
        s.end(0);
        s.ticks(7);
        s.law(0, 1);
        s.law(0, 1);
        s.law(0, 1);
        s.hole(33);
        s.feed(0, 5);
        s.tell(1);
        s.tell(1);
        s.tell(1);
        s.tell(1);
        s.voice(0, 1, 0);
        s.seed(LEAST);
        int[] counts = {7, 2, 1, 3, 33, 5, 4, 2, LEAST};
        for (int i = 0; i < counts.length; i++) {
            due("count(" + i + ")", s.count(i), counts[i]);
        }
        due("9", s.count(9), BEYOND);
        due("-1", s.count(-1), BEYOND);
        due("z is no error", s.told(1), 2);
    }

    private static void told() {
        promise = 45;
        SmokeRings s = new SmokeRings();
        s.wall(LEAST);
        s.front();
        s.front();
        s.sheet(0, 8, -1);
        s.sheet(0, 8, -1);
        s.sheet(0, 8, -1);
        for (int i = 0; i < 8; i++) {
            plain(s, 0, 1, 1);
        }
        for (int i = 0; i < 4; i++) {
            plain(s, 0, 1, 1);
        }
        s.law(0, 1);
        for (int i = 0; i < 5; i++) {
            s.as(0, 1);
        }
        for (int k = 1; k <= 5; k++) {
            due("told(" + k + ")", s.told(k), k);
        }
        due("0", s.told(0), BEYOND);
        due("6", s.told(6), BEYOND);
        due("counted, too", s.told(1), 3);
        s.voice(0, 0, -1000000001);
        s.text(0);
        due("other answers are no errors", s.told(1), 3);
    }
}
