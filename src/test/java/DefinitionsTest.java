import java.util.Random;

/**
 * What the document tells of a call by means of other ones ("as if so many went by", "of all STROKES ..", "of all sets
 * of LAWS ..") has to be what those answer on like objects. Here nothing is worked out but by calls of the face.
 */
public final class DefinitionsTest extends Boundary {
    private static final int ROOMS = 150;
    private static final String[] OF_STROKES = {"", "l*q/9", "q*(l>7)", "h*q-l", "900/l+q%5"};
    private static final String[] OF_LOSSES = {"", "0", "1", "t/9", "(w>60)*9+k/3"};

    /** Where like objects are made from. */
    private static final class Plan {
        final int[][] rings;
        final int[][] laws;
        final int on;
        final int gone;
        final int wall;
        final int hole;
        final String ofStrokes;
        final String ofLosses;

        Plan(Random random) {
            boolean close = random.nextInt(3) != 0;
            int reach = close ? 60 : 2000;
            rings = new int[random.nextInt(5) == 0 ? 1 : 1 + random.nextInt(7)][];
            for (int i = 0; i < rings.length; i++) {
                int x = random.nextInt(2 * reach + 1) - reach;
                int y = random.nextInt(close ? 40 : 400);
                int way = random.nextInt(4) == 0 ? -1 : 1;
                int turning = random.nextInt(random.nextInt(5) == 0 ? 1000 : 150);
                int wide = 1 + random.nextInt(random.nextInt(5) == 0 ? 200 : 40);
                rings[i] = new int[] {x, y, way, turning, wide, 1 + random.nextInt(12)};
            }
            laws = new int[random.nextInt(5)][];
            for (int i = 0; i < laws.length; i++) {
                laws[i] = new int[] {random.nextInt(7), random.nextInt(random.nextInt(2) == 0 ? 12 : 100)};
            }
            on = random.nextInt(1 << laws.length) | random.nextInt(1 << laws.length);
            gone = random.nextInt(6) == 0 ? random.nextInt(1 << rings.length) : 0;
            wall = random.nextInt(2) == 0 ? random.nextInt(400) - 50 : 99999;
            hole = 1 + random.nextInt(20);
            ofStrokes = OF_STROKES[random.nextInt(OF_STROKES.length)];
            ofLosses = OF_LOSSES[random.nextInt(OF_LOSSES.length)];
        }

        SmokeRings make() {
            return make(on, rings[0][3]);
        }

        SmokeRings make(int lawsOn, int turningOfFirst) {
            SmokeRings s = makeEmpty();
            for (int i = 0; i < rings.length; i++) {
                int[] r = rings[i];
                s.ring(xy(r[0], r[1]), r[2], i == 0 ? turningOfFirst : r[3], 100 * r[4] + r[5]);
                if ((gone >> i & 1) != 0) {
                    s.end(i);
                }
            }
            for (int i = 0; i < laws.length; i++) {
                s.turn(i, lawsOn >> i & 1);
            }
            return s;
        }

        /** All but the RINGS. */
        SmokeRings makeEmpty() {
            SmokeRings s = new SmokeRings();
            for (int i = 0; i < laws.length; i++) {
                s.law(laws[i][0], laws[i][1]);
                s.turn(i, on >> i & 1);
            }
            s.wall(wall);
            s.hole(hole);
            if (!ofStrokes.isEmpty()) {
                text(s, 0, ofStrokes);
            }
            if (!ofLosses.isEmpty()) {
                text(s, 1, ofLosses);
            }
            return s;
        }
    }

    public static void main(String[] args) {
        DefinitionsTest test = new DefinitionsTest();
        for (int i = 0; i < ROOMS; i++) {
            Random random = new Random(i);
            Plan plan = new Plan(random);
            test.tick(plan, random);
            test.breeze(plan, random);
            test.ahead(plan, random);
            test.alongTheWay(plan, random);
            test.order(plan, random);
            test.films(plan, random);
            test.strokes(plan, random);
            test.second(plan, random);
            test.alike(plan, random);
            test.heart(plan, random);
            test.kinds(plan);
            test.voices(plan, random);
        }
        test.withoutTexts();
        test.finish();
    }

    private static boolean isWhole(SmokeRings s, int ring) {
        return s.ofRing(ring, 6) == 1;
    }

    private static int held(int v, int least, int most) {
        return Math.max(least, Math.min(most, v));
    }

    private static SmokeRings gone(Plan plan, int n) {
        SmokeRings s = plan.make();
        for (int i = 0; i < n; i++) {
            s.ticks(1);
        }
        return s;
    }

    // ---- a TICK, by does(), gives() and ofRing()

    private void tick(Plan plan, Random random) {
        says("Terms 3: A TICK goes by: (1) .. (5)");
        int from = random.nextInt(6);
        SmokeRings was = gone(plan, from);
        int rings = plan.rings.length;
        int[][] due = new int[rings][];
        for (int r = 0; r < rings; r++) {
            due[r] = isWhole(was, r) ? movedOn(plan, r, from) : traitsOf(was, r);
        }
        for (int r = 0; r < rings; r++) {
            if (isWhole(was, r)) {
                endIfDue(plan, r, from, due);
            }
        }
        for (int[] ring : due) {
            ring[6] = ring[3] == 0 ? 0 : ring[6];
            ring[0] = ring[6] == 1 && ring[2] == 1 && ring[0] > plan.wall ? plan.wall : ring[0];
        }
        SmokeRings is = gone(plan, from);
        due("ticks(1)", is.ticks(1), from + 1);
        for (int r = 0; r < rings; r++) {
            traits("a TICK behind " + from + " of them", is, r, due[r]);
        }
    }

    private static int[] traitsOf(SmokeRings s, int ring) {
        int[] traits = new int[7];
        for (int i = 0; i < traits.length; i++) {
            traits[i] = s.ofRing(ring, i);
        }
        return traits;
    }

    private static int[] movedOn(Plan plan, int ring, int from) {
        SmokeRings s = gone(plan, from);
        int[] t = traitsOf(s, ring);
        int wide = t[4];
        int y = t[1];
        for (int law = 0; law < plan.laws.length; law++) {
            if (s.ofLaw(law, 2) == 1) {
                wide += s.does(law, ring, ring, 2);
                y += s.does(law, ring, -1, 3);
                for (int other = 0; other < plan.rings.length; other++) {
                    wide += other != ring && isWhole(s, other) ? s.does(law, ring, other, 0) : 0;
                }
            }
        }
        return new int[] {held(t[0] + s.ofRing(ring, 7) * t[2], -99999, 99999), held(y, -999, 999), t[2],
            held(t[3] - s.gives(1, t[3], t[4], t[5]), 0, 999), held(wide, 1, 200), t[5], 1};
    }

    private static void endIfDue(Plan plan, int ring, int from, int[][] due) {
        SmokeRings s = gone(plan, from);
        for (int other = 0; other < plan.rings.length; other++) {
            for (int law = 0; law < plan.laws.length && other != ring && isWhole(s, other); law++) {
                if (s.ofLaw(law, 2) == 1 && s.does(law, ring, other, 1) == 1) {
                    due[ring][6] = 0;
                    if (s.ofLaw(law, 0) == 2 && due[other][6] == 1) {
                        due[other][3] = Math.min(999, due[other][3] + due[ring][3]);
                    }
                    return;
                }
            }
        }
    }

    private void breeze(Plan plan, Random random) {
        says("19: n TICKS with a BREEZE");
        int n = 1 + random.nextInt(6);
        int seed = random.nextInt();
        SmokeRings at = plan.make();
        at.seed(seed);
        due("breeze(" + n + ")", at.breeze(n), n);
        SmokeRings steps = plan.make();
        steps.seed(seed);
        for (int i = 0; i < n; i++) {
            steps.breeze(1);
        }
        same("breeze(" + n + ") is as often breeze(1)", new Seen(at), new Seen(steps));
        SmokeRings windy = plan.make();
        windy.seed(seed);
        windy.breeze(1);
        SmokeRings still = plan.make();
        still.ticks(1);
        int z = seed;
        for (int r = 0; r < plan.rings.length; r++) {
            int y = still.ofRing(r, 1);
            if (isWhole(still, r)) {
                z = z * 1103515245 + 12345;
                y = held(y + (z >>> 8) % 7 - 3, -999, 999);
            }
            due("Y of RING " + r + " behind breeze(1)", windy.ofRing(r, 1), y);
        }
        due("z behind breeze(1)", windy.count(8), z);
    }

    // ---- AHEAD, by ticks()

    private void ahead(Plan plan, Random random) {
        says("Terms 3: AHEAD by n TICKS: as if so many went by");
        int n = random.nextInt(61);
        SmokeRings looking = plan.make();
        SmokeRings there = gone(plan, n);
        for (int r = 0; r < plan.rings.length; r++) {
            for (int what = 0; what <= 7; what++) {
                due("then(" + n + ", " + r + ", " + what + ")", looking.then(n, r, what), there.ofRing(r, what));
            }
        }
        due("whole(" + n + ")", looking.whole(n), there.count(2));
        if (n > 0) {
            SmokeRings atOnce = plan.make();
            due("ticks(" + n + ")", atOnce.ticks(n), n);
            same("ticks(" + n + ") is as often ticks(1)", new Seen(atOnce), new Seen(there));
        }
    }

    private void alongTheWay(Plan plan, Random random) {
        says("Terms 3: TURNS by n, FAR of a RING by n, KNOCK of a RING by n at an X");
        int n = random.nextInt(61);
        int ring = random.nextInt(plan.rings.length);
        SmokeRings s = plan.make();
        int x = held(plan.make().far(n, ring), -99999, 99999) - random.nextInt(40);
        int far = isWhole(s, ring) ? s.ofRing(ring, 0) : NONE;
        int knock = NONE;
        int turns = 0;
        int front = s.front();
        for (int i = 0; i <= n; i++) {
            if (i > 0) {
                s.ticks(1);
                int next = s.front();
                turns += front >= 0 && next >= 0 && front != next ? 1 : 0;
                front = next;
            }
            if (isWhole(s, ring)) {
                far = Math.max(far, s.ofRing(ring, 0));
                if (knock == NONE && s.ofRing(ring, 0) >= x) {
                    knock = s.ofRing(ring, 3) * 100 / s.ofRing(ring, 4);
                }
            }
        }
        SmokeRings looking = plan.make();
        due("turns(" + n + ")", looking.turns(n), turns);
        due("far(" + n + ", " + ring + ")", looking.far(n, ring), far);
        due("knock(" + n + ", " + ring + ", " + x + ")", looking.knock(n, ring, x), x < -99999 ? BEYOND : knock);
    }

    private void order(Plan plan, Random random) {
        says("43: all whole RINGS AHEAD by n, the farthest in X first, of like ones the least number");
        int n = random.nextInt(30);
        SmokeRings there = gone(plan, n);
        SmokeRings s = plan.make();
        int place = 0;
        for (int front = there.front(); front >= 0; front = there.front()) {
            due("tell(" + front + ")", s.tell(front), place + 1);
            there.end(front);
            place++;
        }
        s.image();
        due("check(" + n + ") of all", s.check(n), 0);
        s.restore();
        s.tell(0);
        due("check(" + n + ") of one more", s.check(n), 1 + place);
    }

    // ---- FILMS, by ticks(), turn() and ring()

    private void films(Plan plan, Random random) {
        int[] film = new int[1 + random.nextInt(12)];
        SmokeRings other = random.nextInt(3) == 0 ? plan.make() : plan.make(random.nextInt(1 << plan.laws.length),
            9 * random.nextInt(112));
        for (int i = 0; i < film.length; i++) {
            other.ticks(1);
            film[i] = isWhole(other, 0) ? other.ofRing(0, 0) + random.nextInt(3) - 1 : random.nextInt(500);
        }
        says("29: OFF by a FILM");
        SmokeRings s = plan.make();
        numbers(s, 2, 32, film);
        int off = 0;
        SmokeRings going = plan.make();
        for (int number : film) {
            going.ticks(1);
            off += isWhole(going, 0) ? Math.abs(going.ofRing(0, 0) - number) : 0;
        }
        due("off(2)", s.off(2), off);
        says("30: SPUN by a FILM");
        int best = 0;
        for (int turning = 0; turning <= 999; turning += 9) {
            best = offOf(plan, plan.on, turning, film) < offOf(plan, plan.on, best, film) ? turning : best;
        }
        due("spun(2)", s.spun(2), best);
        says("31: MADE by a FILM, as bits");
        best = 0;
        for (int set = 0; set < 1 << plan.laws.length; set++) {
            best = offOf(plan, set, plan.rings[0][3], film) < offOf(plan, best, plan.rings[0][3], film) ? set : best;
        }
        due("made(2)", s.made(2), best);
        says("39: X of RING 0 behind 1, 2, .. TICKS comes to a SHEET");
        due("film(2)", s.film(2), film.length);
        due("off(2) of what was filmed now", s.off(2), 0);
        readFilm(plan, s, film.length);
    }

    private static int offOf(Plan plan, int lawsOn, int turning, int[] film) {
        SmokeRings s = plan.make(lawsOn, turning);
        numbers(s, 0, 32, film);
        return s.off(0);
    }

    /** A number of a SHEET can be seen by how much RING 0 is OFF by it alone. */
    private void readFilm(Plan plan, SmokeRings s, int n) {
        s.sheet(3, 32, 1);
        SmokeRings next = gone(plan, 1);
        SmokeRings going = plan.make();
        for (int i = 0; i < n; i++) {
            going.ticks(1);
            int number = isWhole(going, 0) ? going.ofRing(0, 0) : 0;
            s.move(2, i, 3, 0, 1);
            due("off by number " + i + " of the FILM alone", s.off(3),
                isWhole(next, 0) ? Math.abs(next.ofRing(0, 0) - number) : 0);
        }
    }

    // ---- STROKES, by stroke() in like rooms

    private void strokes(Plan plan, Random random) {
        says("26: FARTHEST, of all STROKES, each alone in a room without RINGS");
        int n = random.nextInt(25);
        int a = 1 + random.nextInt(12);
        int b = 1 + random.nextInt(8);
        int best = -1;
        int due = 0;
        for (int l = 1; l <= a; l++) {
            for (int q = 1; q <= b; q++) {
                SmokeRings alone = plan.makeEmpty();
                alone.stroke(l, q);
                int far = alone.far(n, 0);
                due = far > best ? 100 * l + q : due;
                best = Math.max(best, far);
            }
        }
        due("farthest(" + n + ", " + a + ", " + b + ")", plan.make().farthest(n, a, b), due);
        says("13: A STROKE is made: the RING");
        SmokeRings s = plan.make();
        int rings = plan.rings.length;
        due("stroke(" + a + ", " + b + ")", s.stroke(a, b), rings);
        int hole = plan.hole;
        traits("a STROKE", s, rings, 0, 0, 1, s.gives(0, a, b, hole), hole, 1 + hole / 5, 1);
    }

    private void second(Plan plan, Random random) {
        says("27: SECOND by n, d, l");
        int n = random.nextInt(30);
        int d = random.nextInt(21);
        int l = 1 + random.nextInt(random.nextInt(2) == 0 ? 40 : 400);
        int due = NONE;
        for (int q = 1; q <= 99 && due == NONE; q++) {
            SmokeRings s = gone(plan, d);
            s.stroke(l, q);
            due = s.turns(n) >= 2 ? q : NONE;
        }
        due("second(" + n + ", " + d + ", " + l + ")", plan.make().second(n, d, l), due);
    }

    private void alike(Plan plan, Random random) {
        says("28: ALIKE by n, v");
        int n = random.nextInt(40);
        int v = random.nextInt(random.nextInt(2) == 0 ? 60 : 1000);
        int due = NONE;
        for (int k = 0; k <= Math.min(99, v); k++) {
            SmokeRings s = plan.makeEmpty();
            plain(s, 0, 1, v);
            plain(s, -20, 1, v - k);
            if (s.turns(n) < 1) {
                break;
            }
            due = k;
        }
        due("alike(" + n + ", " + v + ")", plan.make().alike(n, v), due);
    }

    private void heart(Plan plan, Random random) {
        says("32: HEART for c");
        int c = 1 + random.nextInt(random.nextInt(8) == 0 ? 2000 : 60);
        int best = LEAST;
        int due = 0;
        for (int l = 1; l <= 400; l++) {
            SmokeRings s = plan.makeEmpty();
            for (int q = 1; q <= 99 && l * q <= c; q++) {
                int gain = s.gives(0, l, q, plan.hole) - s.trails(l);
                due = gain > best ? 100 * l + q : due;
                best = Math.max(best, gain);
            }
        }
        due("heart(" + c + ")", plan.make().heart(c), due);
    }

    // ---- KINDS and their VOICES

    private void kinds(Plan plan) {
        says("8: it isn't of that KIND, nor of one under it");
        int[] above = {-1, 0, 0, 0, 3, 0, 5};
        SmokeRings s = plan.make();
        for (int law = 0; law < plan.laws.length; law++) {
            for (int kind = 0; kind <= 6; kind++) {
                boolean is = false;
                for (int of = s.ofLaw(law, 0); of >= 0; of = above[of]) {
                    is |= of == kind;
                }
                due("as(" + law + ", " + kind + ")", s.as(law, kind), is ? s.ofLaw(law, 1) : KIND);
            }
        }
    }

    private void voices(Plan plan, Random random) {
        says("34: BODIES of the KINDS");
        SmokeRings s = plan.make();
        for (int law = 0; law < plan.laws.length; law++) {
            int kind = plan.laws[law][0];
            int m = plan.laws[law][1];
            int x = random.nextInt();
            int goes = kind == 2 ? (x + law) * 3 : kind == 4 ? x + 1 + law : x + law;
            due("goes of KIND " + kind, s.voice(law, 0, x), goes);
            int ends = kind == 3 || kind == 4 ? -(x - m) : kind == 6 ? x : x - m;
            due("ends of KIND " + kind, s.voice(law, 2, x), ends);
            int moves = kind == 1 ? 2 * s.voice(law, 0, x) - s.voice(law, 2, 1)
                : kind >= 5 ? 2 * s.voice(law, 0, x) ^ law : 2 * s.voice(law, 0, x);
            due("moves of KIND " + kind, s.voice(law, 1, x), moves);
            int tells = s.voice(law, 1, x) ^ s.voice(law, 2, x);
            tells = kind == 4 ? tells - s.voice(law, 0, 2) : kind == 6 ? s.voice(law, 1, x) - tells : tells;
            due("tells of KIND " + kind, s.voice(law, 3, x), tells);
        }
    }

    // ---- USES without a TEXT

    private void withoutTexts() {
        says("Terms 2: without a TEXT as that of .. would give");
        Random random = new Random(1);
        for (int round = 0; round < 20; round++) {
            SmokeRings with = withTexts("q*(l<h*4)*l/4+q*!(l<h*4)*h", "t/50+w/100");
            SmokeRings without = new SmokeRings();
            for (int i = 0; i < 200; i++) {
                int bits = random.nextInt(32);
                int a = random.nextInt() >> bits;
                int b = random.nextInt() >> bits;
                int c = random.nextInt() >> bits;
                for (int use = 0; use < 2; use++) {
                    due("gives(" + use + ", " + a + ", " + b + ", " + c + ")", without.gives(use, a, b, c),
                        with.gives(use, a, b, c));
                }
            }
        }
    }
}
