/** The boundary cases of promises 29 to 32 and 39, and of what "Terms" 3 says of FILMS and HEARTS. */
public final class FilmsHeartsBoundaryTest extends Boundary {
    private static final int[] NO_SHEETS = {-1, 4, LEAST, MOST};

    public static void main(String[] args) {
        FilmsHeartsBoundaryTest test = new FilmsHeartsBoundaryTest();
        test.differencesHeld();
        test.differencesOfBits();
        test.differencesWhileWhole();
        test.filmsWithoutNumbers();
        test.spunBySteps();
        test.spunOfSeveral();
        test.madeOfNoLaws();
        test.madeOfAllSets();
        test.madeOfSeveral();
        test.films();
        test.filmsOfBits();
        test.filmsWhereItIsGone();
        test.filmsRefused();
        test.heartsForSoMuch();
        test.heartsOfSeveral();
        test.heartsLessTrails();
        test.heartsRefused();
        test.finish();
    }

    /** RING 0 that stands at an X (PACE 0), and nothing is lost. */
    private static SmokeRings standing(int x) {
        SmokeRings s = lossless();
        plain(s, x, 1, 1);
        return s;
    }

    private static int off(int x, int bits, int... film) {
        SmokeRings s = standing(x);
        numbers(s, 0, bits, film);
        return s.off(0);
    }

    private void differencesHeld() {
        says("29: OFF: differences, without sign, each held at 1000000, together");
        due("0", off(5, 32, 5), 0);
        due("1", off(5, 32, 6), 1);
        due("1", off(5, 32, 4), 1);
        due("999999", off(0, 32, 999999), 999999);
        due("1000000", off(0, 32, 1000000), 1000000);
        due("1000001", off(0, 32, 1000001), 1000000);
        due("-1000000", off(0, 32, -1000000), 1000000);
        due("-1000001", off(0, 32, -1000001), 1000000);
        due("the most from -99999", off(-99999, 32, MOST), 1000000);
        due("the least from 99999", off(99999, 32, LEAST), 1000000);
        due("the most from 99999", off(99999, 32, MOST), 1000000);
        due("the least from -99999", off(-99999, 32, LEAST), 1000000);
        due("goes round: the least and 99999 from 99999", off(99999, 32, LEAST + 99999), 1000000);
        due("from end to end", off(-99999, 32, 99999), 199998);
        due("together, whatever their signs", off(10, 32, 7, 13, 10, LEAST, 1000010, 1000011), 6 + 3000000);
        int[] far = new int[40];
        java.util.Arrays.fill(far, MOST);
        due("40 of the farthest", off(0, 32, far), 40000000);
        java.util.Arrays.fill(far, LEAST);
        due("40 of the farthest", off(0, 32, far), 40000000);
        says("29: numbers are X of RING 0 behind 1, 2, .. TICKS");
        SmokeRings going = lossless();
        plain(going, 0, 1, 20);
        int[] x = new int[40];
        for (int i = 0; i < 40; i++) {
            x[i] = 6 * (i + 1);
        }
        numbers(going, 0, 32, x);
        due("from TICK 1 to TICK 40", going.off(0), 0);
    }

    private void differencesOfBits() {
        says("29: (numbers of 8 and 16 bits, as their lowest bits are)");
        due("127", off(0, 8, 127), 127);
        due("128 is -128", off(0, 8, 128), 128);
        due("129 is -127", off(0, 8, 129), 127);
        due("255 is -1", off(0, 8, 255), 1);
        due("256 is 0", off(0, 8, 256), 0);
        due("-129 is 127", off(0, 8, -129), 127);
        due("128 is -128, from 100", off(100, 8, 128), 228);
        due("32767", off(0, 16, 32767), 32767);
        due("32768 is -32768", off(0, 16, 32768), 32768);
        due("32768 is -32768, from 100", off(100, 16, 32768), 32868);
        due("65535 is -1", off(0, 16, 65535), 1);
        due("65536 is 0", off(0, 16, 65536), 0);
        due("32 bits", off(0, 32, 65536), 65536);
    }

    private void differencesWhileWhole() {
        says("29: (a difference is 0 in TICKS in which it isn't whole)");
        SmokeRings s = new SmokeRings();
        text(s, 1, "1");
        plain(s, 0, 1, 3);
        numbers(s, 0, 32, 7, 7, 7, 7);
        due("whole in TICKS 1 and 2 alone", s.off(0), 14);
        SmokeRings gone = standing(0);
        gone.end(0);
        numbers(gone, 0, 32, MOST, MOST);
        due("gone now", gone.off(0), 0);
        SmokeRings zero = lossless();
        plain(zero, 0, 1, 0);
        numbers(zero, 0, 32, MOST);
        due("gone in TICK 1", zero.off(0), 0);
    }

    private static SmokeRings withFilm(int n) {
        SmokeRings s = standing(7);
        s.law(0, 1);
        s.sheet(0, 32, n);
        return s;
    }

    private void filmsWithoutNumbers() {
        says("29 to 31, 39: (a SHEET of 0 numbers is no lack)");
        looks("off", () -> withFilm(0), s -> s.off(0), 0);
        looks("spun", () -> withFilm(0), s -> s.spun(0), 0);
        looks("made", () -> withFilm(0), s -> s.made(0), 0);
        looks("film", () -> withFilm(0), s -> s.film(0), 0);
        due("one number", withFilm(1).film(0), 1);
        due("40 numbers", withFilm(40).film(0), 40);
        says("29 to 31, 39: BEYOND: no such SHEET. NONE: it is missing; there is no RING 0.");
        Act[][] acts = new Act[4][];
        for (int i = 0; i < NO_SHEETS.length; i++) {
            int sheet = NO_SHEETS[i];
            acts[i] = new Act[] {s -> s.off(sheet), s -> s.spun(sheet), s -> s.made(sheet), s -> s.film(sheet)};
            for (Act act : acts[i]) {
                refusedEverywhere("SHEET " + sheet, act, BEYOND);
            }
        }
        Act[] last = {s -> s.off(3), s -> s.spun(3), s -> s.made(3), s -> s.film(3)};
        for (Act act : last) {
            refused("SHEET 3 is missing, no RINGS", SmokeRings::new, act, NONE);
            refused("SHEET 3 is missing", Boundary::rich, act, NONE);
            refused("no RING 0", () -> {
                SmokeRings s = new SmokeRings();
                s.sheet(3, 32, 2);
                return s;
            }, act, NONE);
            refused("missing again", () -> {
                SmokeRings s = full();
                s.sheet(3, 0, 0);
                return s;
            }, act, NONE);
            due("SHEET 3 is there", act.on(full()) >= 0 ? 1 : 0, 1);
        }
        for (int sheet = 0; sheet < 4; sheet++) {
            int asked = sheet;
            leavesAll("off(" + sheet + ")", Boundary::full, s -> s.off(asked));
            leavesAll("spun(" + sheet + ")", Boundary::full, s -> s.spun(asked));
            leavesAll("made(" + sheet + ")", Boundary::full, s -> s.made(asked));
            leavesAll("off(" + sheet + ")", Boundary::rich, s -> s.off(asked));
            leavesAll("spun(" + sheet + ")", Boundary::rich, s -> s.spun(asked));
            leavesAll("made(" + sheet + ")", Boundary::rich, s -> s.made(asked));
        }
    }

    /** RING 0 that is joined by RING 1 in the first TICK, so that it stays even with TURNING 0. PACE is 3 * TURNING. */
    private static SmokeRings joined(int turning, int... film) {
        SmokeRings s = lossless();
        s.law(2, 0);
        s.ring(xy(0, 0), 1, turning, 101);
        s.ring(xy(0, 0), 1, 1, 101);
        numbers(s, 0, 32, film);
        return s;
    }

    private void spunBySteps() {
        says("30: SPUN: the TURNING (0 to 999 by steps of 9) of RING 0 by which it is OFF least");
        due("0", joined(500, 0).spun(0), 0);
        due("999", joined(500, 2997).spun(0), 999);
        due("990", joined(500, 2970).spun(0), 990);
        due("9", joined(500, 27).spun(0), 9);
        due("farther than can be", joined(500, MOST).spun(0), 0);
        due("farther than 999", joined(500, 99999).spun(0), 999);
        due("less than 0", joined(500, -1).spun(0), 0);
        due("500 is no step: 13 from 495 * 3, 14 from 504 * 3", joined(500, 1498).spun(0), 495);
        due("14 from 495 * 3, 13 from 504 * 3", joined(495, 1499).spun(0), 504);
        looks("TURNING stays", () -> joined(500, 27), s -> s.ofRing(0, 3) - s.spun(0), 491);
        SmokeRings gone = joined(500, 27);
        gone.end(0);
        due("gone now: never OFF", gone.spun(0), 0);
        SmokeRings alone = lossless();
        plain(alone, 0, 1, 9);
        numbers(alone, 0, 32, 2);
        due("with TURNING 0 it is gone, and never OFF", alone.spun(0), 0);
    }

    private void spunOfSeveral() {
        says("30: of several the least");
        // X is 27 for 9, 54 for 18
        due("13 from 27 and 14 from 54", joined(0, 40).spun(0), 9);
        due("14 from 27 and 13 from 54", joined(0, 41).spun(0), 18);
        SmokeRings wide = lossless();
        wide.law(2, 0);
        wide.ring(xy(0, 0), 1, 5, 20001);
        wide.ring(xy(0, 0), 1, 1, 101);
        numbers(wide, 0, 32, 1);
        due("27 * 10 / 200 and 36 * 10 / 200 are both 1", wide.spun(0), 27);
        due("each is held at 1000000: all are like", joined(0, 3000000, 3000000).spun(0), 0);
    }

    private void madeOfNoLaws() {
        says("31: MADE: of all sets of LAWS (on, the others off): no LAWS");
        SmokeRings s = standing(0);
        numbers(s, 0, 32, MOST);
        due("the empty set", s.made(0), 0);
    }

    /**
     * RING 0 goes 3 in the first TICK and gets wider by as much as the numbers of the LAWS are as bits: 18 and up to 63.
     * In the next TICK it goes 3 to 0, 0 only if all six are on.
     */
    private static SmokeRings sixLaws(int... film) {
        SmokeRings s = lossless();
        for (int i = 0; i < 6; i++) {
            s.law(5, 1 << i);
        }
        s.wall(0);
        s.ring(xy(-10, 0), -1, 20, 1850);
        numbers(s, 0, 32, film);
        return s;
    }

    private void madeOfAllSets() {
        says("31: of all sets of LAWS, as bits");
        due("all six", sixLaws(-13, -13).made(0), 63);
        due("none", sixLaws(-13, -16).made(0), 0);
        due("all are like in TICK 1", sixLaws(-13).made(0), 0);
        says("31: (on, the others off), whatever is on now");
        SmokeRings off = sixLaws(-13, -13);
        for (int i = 0; i < 6; i++) {
            off.turn(i, 0);
        }
        due("all six, though off now", off.made(0), 63);
        for (int i = 0; i < 6; i++) {
            due("still off", off.ofLaw(i, 2), 0);
        }
        looks("still on", () -> sixLaws(-13, -13), s -> s.made(0), 63);
        SmokeRings one = lossless();
        one.law(5, 63);
        one.wall(0);
        one.ring(xy(-10, 0), -1, 20, 1850);
        numbers(one, 0, 32, -13, -13);
        due("one LAW", one.made(0), 1);
        SmokeRings last = lossless();
        for (int i = 0; i < 5; i++) {
            last.law(3, 9);
        }
        last.law(5, 63);
        last.wall(0);
        last.ring(xy(-10, 0), -1, 20, 1850);
        numbers(last, 0, 32, -13, -13);
        due("the sixth", last.made(0), 32);
    }

    private void madeOfSeveral() {
        says("31: of several the least as bits");
        due("PACE 1 from 31 wide on", sixLaws(-13, -14).made(0), 13);
        due("PACE 2 from 21 wide on", sixLaws(-13, -15).made(0), 3);
        due("farther than can be", sixLaws(MOST, MOST).made(0), 0);
        due("all are held at 1000000", sixLaws(LEAST, LEAST).made(0), 0);
        due("nearest to what is farther", sixLaws(-13, -99).made(0), 0);
        due("nearest to what is less far", sixLaws(-13, 99).made(0), 63);
        SmokeRings gone = sixLaws(-13, -13);
        gone.end(0);
        due("gone now: never OFF", gone.made(0), 0);
    }

    private void films() {
        says("39: X of RING 0 behind 1, 2, .. TICKS comes to a SHEET, as many as it has: how many");
        SmokeRings s = lossless();
        plain(s, 0, 1, 20);
        plain(s, 500, 1, 20);
        numbers(s, 0, 32, 1, 2, 3);
        due("film", s.film(0), 3);
        SmokeRings as = lossless();
        plain(as, 0, 1, 20);
        plain(as, 500, 1, 20);
        numbers(as, 0, 32, 6, 12, 18);
        same("6, 12, 18", new Seen(s), new Seen(as));
        SmokeRings forty = standing(3);
        forty.sheet(2, 16, 40);
        due("40", forty.film(2), 40);
        due("all of them", forty.off(2), 0);
        forty.put(2, 39, 4);
        due("the last stands there", forty.off(2), 1);
    }

    private void filmsOfBits() {
        says("39: (its lowest bits)");
        int[][] cases = {
            // bits, X, what stands there
            {8, 127, 127}, {8, 128, -128}, {8, 255, -1}, {8, 256, 0}, {8, -128, -128}, {8, -129, 127}, {16, 32767, 32767},
            {16, 32768, -32768}, {16, 65536, 0}, {16, -32769, 32767}, {32, 99999, 99999}, {32, -99999, -99999}};
        for (int[] c : cases) {
            SmokeRings s = standing(c[1]);
            s.sheet(0, c[0], 1);
            s.film(0);
            due(c[1] + " by " + c[0] + " bits", s.off(0), Math.abs(c[1] - c[2]));
        }
    }

    private void filmsWhereItIsGone() {
        says("39: 0 where it isn't whole");
        SmokeRings s = new SmokeRings();
        text(s, 1, "1");
        plain(s, 70, 1, 3);
        numbers(s, 0, 32, 9, 9, 9, 9);
        due("film", s.film(0), 4);
        text(s, 1, "0");
        due("70, 70, 0, 0", s.off(0), 140);
        SmokeRings gone = standing(70);
        gone.end(0);
        numbers(gone, 0, 32, 9, 9);
        due("gone now", gone.film(0), 2);
        SmokeRings zeros = standing(70);
        zeros.end(0);
        zeros.sheet(0, 32, 2);
        same("0, 0", new Seen(gone), new Seen(zeros));
    }

    private void filmsRefused() {
        says("39: (only the SHEET changes)");
        SmokeRings filmed = rich();
        due("film", filmed.film(2), 4);
        SmokeRings like = rich();
        for (int i = 0; i < 4; i++) {
            like.put(2, i, filmed.then(i + 1, 0, 6) == 1 ? filmed.then(i + 1, 0, 0) : 0);
        }
        same("film", new Seen(filmed), new Seen(like));
    }

    private void heartsForSoMuch() {
        says("32: HEART for so much (how long times how quick no more than c; c 1 to 9999)");
        // HOLE 10: TURNING is q * l / 4 below 40, then 10 * q
        looks("1", SmokeRings::new, s -> s.heart(1), 101);
        looks("3: none turns", SmokeRings::new, s -> s.heart(3), 101);
        looks("4: 1 of TURNING", SmokeRings::new, s -> s.heart(4), 104);
        looks("7", SmokeRings::new, s -> s.heart(7), 104);
        looks("8", SmokeRings::new, s -> s.heart(8), 108);
        looks("99", SmokeRings::new, s -> s.heart(99), 196);
        looks("3959: 39 * 99 / 4 is 965, 40 * 98 give 980", SmokeRings::new, s -> s.heart(3959), 4098);
        looks("3960", SmokeRings::new, s -> s.heart(3960), 4099);
        looks("9999", SmokeRings::new, s -> s.heart(9999), 4099);
        says("32: the STROKE (how long 1 to 400, how quick 1 to 99)");
        Maker longest = () -> withTexts("(l=400)*999", "0");
        looks("400 long", longest, s -> s.heart(400), 40001);
        looks("400 long is too much", longest, s -> s.heart(399), 101);
        looks("400 long", longest, s -> s.heart(9999), 40001);
        looks("401 long", () -> withTexts("(l=401)*999", "0"), s -> s.heart(9999), 101);
        Maker quickest = () -> withTexts("(q=99)*9", "0");
        looks("99 quick", quickest, s -> s.heart(99), 199);
        looks("99 quick is too much", quickest, s -> s.heart(98), 101);
        looks("100 quick", () -> withTexts("(q=100)*9", "0"), s -> s.heart(9999), 101);
        Maker product = () -> withTexts("(l=101)*(q=99)*999", "0");
        looks("101 * 99 is 9999", product, s -> s.heart(9999), 10199);
        looks("9998", product, s -> s.heart(9998), 101);
    }

    private void heartsOfSeveral() {
        says("32: of several the shortest, then the least quick");
        looks("like ones", () -> withTexts("9", "0"), s -> s.heart(9999), 101);
        looks("the shortest", () -> withTexts("(l*q=12)*9", "0"), s -> s.heart(9999), 112);
        looks("the least quick", () -> withTexts("(l=7)*(q>4)*9", "0"), s -> s.heart(9999), 705);
        // 1 * 99 * 9 is 891, 2 * 56 * 9 is 1008
        looks("held at 999", () -> withTexts("l*q*9", "0"), s -> s.heart(9999), 256);
    }

    private void heartsLessTrails() {
        says("32: the most TURNING less TRAILS");
        // HOLE 1: TRAILS is l less 4
        Maker hole = () -> {
            SmokeRings s = withTexts("l*2", "0");
            s.hole(1);
            return s;
        };
        looks("l less 4 less", hole, s -> s.heart(9999), 40001);
        looks("200", hole, s -> s.heart(200), 20001);
        Maker even = () -> {
            SmokeRings s = withTexts("l", "0");
            s.hole(1);
            return s;
        };
        looks("from 4 on all are like", even, s -> s.heart(9999), 401);
        looks("3 are less", even, s -> s.heart(3), 301);
        Maker slow = () -> {
            SmokeRings s = withTexts("l/2", "0");
            s.hole(50);
            return s;
        };
        looks("up to 4 * HOLE nothing trails off", slow, s -> s.heart(9999), 20001);
        Maker below = () -> {
            SmokeRings s = withTexts("(l=400)*395", "0");
            s.hole(1);
            return s;
        };
        looks("395 less 396 is less than nothing", below, s -> s.heart(9999), 101);
    }

    private void heartsRefused() {
        says("32: BEYOND.");
        for (int c : new int[] {0, 10000, -1, LEAST, MOST}) {
            refusedEverywhere("heart(" + c + ")", s -> s.heart(c), BEYOND);
        }
        leavesAll("heart(9999)", Boundary::rich, s -> s.heart(9999));
        leavesAll("heart(9999)", Boundary::full, s -> s.heart(9999));
    }
}
