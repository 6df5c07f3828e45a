/** The boundary cases of promises 33 to 38 and 40 to 45, and of "Terms" 4. */
public final class SheetsImagesBoundaryTest extends Boundary {
    private static final int[] NO_SHEETS = {-1, 4, LEAST, MOST};

    public static void main(String[] args) {
        SheetsImagesBoundaryTest test = new SheetsImagesBoundaryTest();
        test.seeds();
        test.voicesGoRound();
        test.voicesRefused();
        test.traces();
        test.boundsOfSheets();
        test.sheetsAnew();
        test.missingSheets();
        test.sheetsRefused();
        test.lowestBits();
        test.putsRefused();
        test.movesAsTheyWere();
        test.movesAtTheEnds();
        test.movesRefused();
        test.imagesCounted();
        test.imagesKeepAll();
        test.imagesStay();
        test.restoresRefused();
        test.telling();
        test.checkingOrder();
        test.checkingAhead();
        test.checkingPlaces();
        test.checksRefused();
        test.counts();
        test.told();
        test.finish();
    }

    private void seeds() {
        says("33: z becomes v: what it was (any number). z is told (1 at first)");
        SmokeRings s = new SmokeRings();
        int was = 1;
        for (int v : new int[] {LEAST, MOST, 0, -1, BEYOND, NONE, STATE, FULL, KIND, -1000000000, 1}) {
            due("seed(" + v + ")", s.seed(v), was);
            due("z", s.count(8), v);
            was = v;
        }
        for (int k = 1; k <= 5; k++) {
            due("no ERROR", s.told(k), 0);
        }
    }

    /** The LAW n (behind n others of KIND 0) of such a KIND. */
    private static SmokeRings speaking(int n, int kind, int m) {
        SmokeRings s = new SmokeRings();
        for (int i = 0; i < n; i++) {
            s.law(0, 0);
        }
        s.law(kind, m);
        return s;
    }

    private void voicesGoRound() {
        says("34: VOICES of a LAW, with a number x (ints that go round)");
        due("goes: the most and 5", speaking(5, 0, 0).voice(5, 0, MOST), LEAST + 4);
        due("moves: 2 ^ 30 twice", speaking(0, 0, 0).voice(0, 1, 1 << 30), LEAST);
        due("moves: the least twice", speaking(0, 0, 0).voice(0, 1, LEAST), 0);
        due("moves: the most twice", speaking(0, 0, 0).voice(0, 1, MOST), -2);
        due("ends: the least less 99", speaking(0, 0, 99).voice(0, 2, LEAST), MOST - 98);
        due("tells: (the most) * 2 ^ (the most - 1)", speaking(0, 0, 1).voice(0, 3, MOST), -2 ^ MOST - 1);
        due("THROUGH moves: 2 ^ 31 less (1 less 2)", speaking(0, 1, 2).voice(0, 1, 1 << 30), LEAST + 1);
        due("JOINING goes: the least thrice", speaking(0, 2, 0).voice(0, 0, LEAST), LEAST);
        due("JOINING goes: the most thrice", speaking(0, 2, 0).voice(0, 0, MOST), MOST - 2);
        due("HEADLONG ends: the least, turned, is the least", speaking(0, 3, 0).voice(0, 2, LEAST), LEAST);
        due("HEADLONG ends: the most less 99, turned", speaking(0, 3, 99).voice(0, 2, MOST), -(MOST - 99));
        due("TORN goes: the most and 1", speaking(0, 4, 0).voice(0, 0, MOST), LEAST);
        due("TORN ends: as HEADLONG", speaking(0, 4, 0).voice(0, 2, LEAST), LEAST);
        due("TORN tells: 0 ^ -(the most), less 3", speaking(0, 4, 0).voice(0, 3, MOST), MOST - 1);
        due("WALLED moves: (the most and 5) twice, turned by 5", speaking(5, 5, 0).voice(5, 1, MOST), 8 ^ 5);
        due("SLANTED ends: m less m", speaking(0, 6, 99).voice(0, 2, LEAST), LEAST);
        due("SLANTED tells: 2 x less (2 x ^ x), x 2 ^ 30", speaking(0, 6, 7).voice(0, 3, 1 << 30), LEAST - (LEAST ^ 1 << 30));
        says("34: n is its number, m as told");
        due("goes: x and n", speaking(5, 0, 9).voice(5, 0, 100), 105);
        due("ends: x less m", speaking(5, 0, 9).voice(5, 2, 100), 91);
        due("m 0", speaking(5, 0, 0).voice(5, 2, 100), 100);
        due("n 0", speaking(0, 0, 9).voice(0, 0, 100), 100);
        SmokeRings off = speaking(0, 0, 9);
        off.turn(0, 0);
        due("also of one that is off", off.voice(0, 2, 100), 91);
        says("34: any number (is no ERROR)");
        SmokeRings low = speaking(0, 0, 0);
        for (int k = 1; k <= 5; k++) {
            due("goes", low.voice(0, 0, -1000000000 - k), -1000000000 - k);
        }
        for (int k = 1; k <= 5; k++) {
            due("no ERROR", low.told(k), 0);
        }
    }

    private void voicesRefused() {
        says("34: BEYOND.");
        for (int law : new int[] {-1, 6, LEAST, MOST}) {
            refusedEverywhere("voice(" + law + ", 0, 0)", s -> s.voice(law, 0, 0), BEYOND);
        }
        refused("voice(3, 0, 0) of 3", Boundary::rich, s -> s.voice(3, 0, 0), BEYOND);
        refused("voice(0, 0, 0) of none", SmokeRings::new, s -> s.voice(0, 0, 0), BEYOND);
        for (int act : new int[] {-1, 4, LEAST, MOST}) {
            refusedEverywhere("voice(0, " + act + ", 0)", s -> s.voice(0, act, 0), BEYOND);
        }
    }

    private void traces() {
        says("35: THE TRACE: the numbers of BODIES of the latest voice(), as they began (what stands left is worked out first)");
        int[][][] bodies = {
            {{10}, {11, 10}, {12}, {13, 11, 10, 12}},
            {{10}, {20, 11, 10, 12}, {12}, {13, 20, 11, 10, 12, 12}},
            {{30, 10}, {11, 30, 10}, {12}, {13, 11, 30, 10, 12}},
            {{10}, {11, 10}, {40, 12}, {13, 11, 10, 40, 12}},
            {{50, 10}, {11, 50, 10}, {40, 12}, {51, 13, 11, 50, 10, 40, 12, 50, 10}},
            {{10}, {60, 11, 10}, {12}, {13, 60, 11, 10, 12}},
            {{10}, {60, 11, 10}, {70, 12}, {71, 60, 11, 10, 13, 60, 11, 10, 70, 12}}};
        for (int kind = 0; kind <= 6; kind++) {
            SmokeRings s = speaking(0, kind, 1);
            for (int act = 3; act >= 0; act--) {
                s.voice(0, act, 5);
                int[] due = bodies[kind][act];
                due("BODIES of KIND " + kind + ", act " + act, s.count(7), due.length);
                for (int i = 0; i < due.length; i++) {
                    due("trace of KIND " + kind + ", act " + act, s.trace(i), due[i]);
                }
                due("the one behind the last", s.trace(due.length), NONE);
            }
        }
        says("35: NONE: there is none such.");
        looks("the first", Boundary::full, s -> s.trace(0), 51);
        looks("the last", Boundary::full, s -> s.trace(8), 10);
        refused("the ninth of nine", Boundary::full, s -> s.trace(9), NONE);
        for (int i : new int[] {-1, 40, LEAST, MOST}) {
            refusedEverywhere("trace(" + i + ")", s -> s.trace(i), NONE);
        }
        refused("none yet", SmokeRings::new, s -> s.trace(0), NONE);
    }

    private void boundsOfSheets() {
        says("36: SHEETS 0 .. 3 are rows of 8, 16, 32 bits, at most 40 numbers");
        for (int sheet = 0; sheet <= 3; sheet++) {
            for (int bits : new int[] {8, 16, 32}) {
                for (int n : new int[] {0, 1, 39, 40}) {
                    SmokeRings s = new SmokeRings();
                    due("sheet", s.sheet(sheet, bits, n), 1);
                    due("the last number", s.put(sheet, n - 1, 1), n == 0 ? BEYOND : 1);
                    due("the one behind the last", s.put(sheet, n, 1), BEYOND);
                    for (int other = 0; other <= 3; other++) {
                        due("the others", s.put(other, 40, 0), other == sheet ? BEYOND : NONE);
                    }
                }
            }
        }
    }

    /** What stands in a SHEET, as a RING at X 0 that stands is OFF by it. */
    private static int sum(SmokeRings s, int sheet) {
        s.image();
        text(s, 1, "0");
        int off = s.off(sheet);
        s.restore();
        return off;
    }

    private static SmokeRings standing() {
        SmokeRings s = new SmokeRings();
        plain(s, 0, 1, 1);
        return s;
    }

    private void sheetsAnew() {
        says("36: A SHEET has n numbers, all 0");
        SmokeRings s = standing();
        numbers(s, 1, 32, 1, 2, 4, 8);
        due("they stand there", sum(s, 1), 15);
        s.sheet(1, 32, 4);
        due("all 0 anew", sum(s, 1), 0);
        numbers(s, 1, 32, 1, 2, 4, 8);
        s.sheet(1, 32, 2);
        s.sheet(1, 32, 4);
        due("fewer, then as many again", sum(s, 1), 0);
        numbers(s, 1, 32, 1, 2, 4, 8);
        s.sheet(1, 0, 0);
        s.sheet(1, 32, 4);
        due("missing in between", sum(s, 1), 0);
        numbers(s, 1, 32, 1, 2, 4, 8);
        numbers(s, 2, 32, 16, 32);
        s.sheet(1, 8, 4);
        due("of other bits", sum(s, 1), 0);
        due("the others stay", sum(s, 2), 48);
    }

    private void missingSheets() {
        says("36: 0: it is missing, n doesn't matter: 1");
        for (int n : new int[] {0, 1, 40, 41, -1, LEAST, MOST}) {
            SmokeRings s = full();
            due("sheet(2, 0, " + n + ")", s.sheet(2, 0, n), 1);
            due("it is missing", s.put(2, 0, 0), NONE);
            due("the next is not", s.put(3, 39, 0), 1);
            due("one that was missing", new SmokeRings().sheet(3, 0, n), 1);
        }
    }

    private void sheetsRefused() {
        says("36: BEYOND. STATE: n is below 0 (ahead of BEYOND of n).");
        for (int sheet : NO_SHEETS) {
            refusedEverywhere("sheet(" + sheet + ", 8, 1)", s -> s.sheet(sheet, 8, 1), BEYOND);
            refusedEverywhere("sheet(" + sheet + ", 0, 1)", s -> s.sheet(sheet, 0, 1), BEYOND);
            refusedEverywhere("sheet(" + sheet + ", 8, -1)", s -> s.sheet(sheet, 8, -1), BEYOND);
        }
        for (int bits : new int[] {1, 4, 7, 9, 15, 17, 24, 31, 33, 64, -8, -1, LEAST, MOST}) {
            refusedEverywhere("sheet(0, " + bits + ", 1)", s -> s.sheet(0, bits, 1), BEYOND);
            refusedEverywhere("sheet(0, " + bits + ", -1)", s -> s.sheet(0, bits, -1), BEYOND);
        }
        for (int bits : new int[] {8, 16, 32}) {
            for (int n : new int[] {41, 42, MOST}) {
                refusedEverywhere("sheet(0, " + bits + ", " + n + ")", s -> s.sheet(0, bits, n), BEYOND);
            }
            for (int n : new int[] {-1, -2, LEAST}) {
                refusedEverywhere("sheet(0, " + bits + ", " + n + ")", s -> s.sheet(0, bits, n), STATE);
            }
        }
    }

    private void lowestBits() {
        says("37: Number i of a SHEET becomes v (its lowest bits): 1.");
        int[][] cases = {
            // bits, v, what stands there, without sign
            {8, 127, 127}, {8, 128, 128}, {8, 129, 127}, {8, 255, 1}, {8, 256, 0}, {8, 257, 1}, {8, -128, 128}, {8, -129, 127},
            {8, LEAST, 0}, {8, MOST, 1}, {16, 32767, 32767}, {16, 32768, 32768}, {16, 32769, 32767}, {16, 65535, 1},
            {16, 65536, 0}, {16, -32769, 32767}, {16, LEAST, 0}, {16, MOST, 1}, {32, 65536, 65536}, {32, 999999, 999999},
            {32, LEAST, 1000000}, {32, MOST, 1000000}};
        for (int[] c : cases) {
            SmokeRings s = standing();
            s.sheet(0, c[0], 2);
            due("put", s.put(0, 1, c[1]), 1);
            due(c[1] + " in " + c[0] + " bits", sum(s, 0), c[2]);
        }
        SmokeRings forty = standing();
        forty.sheet(3, 32, 40);
        due("the first", forty.put(3, 0, 1), 1);
        due("the last", forty.put(3, 39, 2), 1);
        due("both", sum(forty, 3), 3);
        due("in place of one ahead", forty.put(3, 39, 4), 1);
        due("both", sum(forty, 3), 5);
    }

    private void putsRefused() {
        says("37: BEYOND: no such SHEET. NONE: it is missing. BEYOND: no such number.");
        for (int sheet : NO_SHEETS) {
            refusedEverywhere("put(" + sheet + ", 0, 1)", s -> s.put(sheet, 0, 1), BEYOND);
        }
        refused("missing", Boundary::rich, s -> s.put(3, 0, 1), NONE);
        for (int sheet = 0; sheet <= 3; sheet++) {
            int asked = sheet;
            refused("missing", SmokeRings::new, s -> s.put(asked, -1, 1), NONE);
            for (int i : new int[] {-1, 40, LEAST, MOST}) {
                refused("put(" + sheet + ", " + i + ", 1)", Boundary::full, s -> s.put(asked, i, 1), BEYOND);
            }
        }
        refused("put(0, 3, 1) of 3", Boundary::rich, s -> s.put(0, 3, 1), BEYOND);
        refused("put(1, 2, 1) of 2", Boundary::rich, s -> s.put(1, 2, 1), BEYOND);
        refused("no numbers", () -> {
            SmokeRings s = new SmokeRings();
            s.sheet(0, 8, 0);
            return s;
        }, s -> s.put(0, 0, 1), BEYOND);
    }

    private static SmokeRings rows(int... first) {
        SmokeRings s = standing();
        numbers(s, 0, 32, first);
        numbers(s, 1, 32, 1000, 2000, 4000);
        return s;
    }

    private void moved(String what, int[] first, int i, int j, int n, int... want) {
        SmokeRings s = rows(first);
        due(what, s.move(0, i, 0, j, n), n);
        same(what, new Seen(s), new Seen(rows(want)));
    }

    private void movesAsTheyWere() {
        says("38: come to another one (or the same), as they all were: n");
        int[] row = {1, 2, 4, 8, 16};
        moved("forward", row, 0, 1, 4, 1, 1, 2, 4, 8);
        moved("forward by 2", row, 0, 2, 3, 1, 2, 1, 2, 4);
        moved("back", row, 1, 0, 4, 2, 4, 8, 16, 16);
        moved("back by 2", row, 2, 0, 3, 4, 8, 16, 8, 16);
        moved("to where they are", row, 0, 0, 5, 1, 2, 4, 8, 16);
        moved("one", row, 4, 0, 1, 16, 2, 4, 8, 16);
        moved("none", row, 2, 3, 0, 1, 2, 4, 8, 16);
        SmokeRings s = rows(row);
        due("to another one", s.move(0, 3, 1, 1, 2), 2);
        due("there", sum(s, 1), 1000 + 8 + 16);
        due("here they stay", sum(s, 0), 31);
        for (int bits : new int[] {8, 16, 32}) {
            SmokeRings forty = standing();
            forty.sheet(0, bits, 40);
            forty.sheet(3, bits, 40);
            for (int i = 0; i < 40; i++) {
                forty.put(0, i, i - 20);
            }
            due("all 40", forty.move(0, 0, 3, 0, 40), 40);
            due("all 40", sum(forty, 3), 400);
        }
    }

    private void movesAtTheEnds() {
        says("38: BEYOND: n, i, or j is below 0, or they don't stand there.");
        Maker rows = () -> rows(1, 2, 4, 8, 16);
        due("the last", rows.make().move(0, 4, 1, 2, 1), 1);
        refused("one more than there are here", rows, s -> s.move(0, 4, 1, 0, 2), BEYOND);
        refused("one more than there are there", rows, s -> s.move(0, 0, 1, 2, 2), BEYOND);
        due("as many as there are there", rows.make().move(0, 0, 1, 0, 3), 3);
        refused("one more", rows, s -> s.move(0, 0, 1, 0, 4), BEYOND);
        due("as many as there are here", rows.make().move(1, 0, 0, 2, 3), 3);
        refused("one farther", rows, s -> s.move(1, 0, 0, 3, 3), BEYOND);
        due("none at both ends", rows.make().move(0, 5, 1, 3, 0), 0);
        refused("none beyond the end here", rows, s -> s.move(0, 6, 1, 3, 0), BEYOND);
        refused("none beyond the end there", rows, s -> s.move(0, 5, 1, 4, 0), BEYOND);
        for (int[] bad : new int[][] {{-1, 0, 1}, {0, -1, 1}, {0, 0, -1}, {-1, 0, 0}, {0, -1, 0}, {LEAST, 0, 1}, {0, LEAST, 1},
            {0, 0, LEAST}, {MOST, 0, 1}, {0, MOST, 1}, {0, 0, MOST}, {MOST, MOST, MOST}, {1, 1, MOST}, {LEAST, LEAST, LEAST},
            {MOST, 0, MOST}, {5, 3, LEAST}, {5, 3, 1}, {-1, -1, 2}}) {
            refused("move(0, " + bad[0] + ", 1, " + bad[1] + ", " + bad[2] + ")", rows,
                s -> s.move(0, bad[0], 1, bad[1], bad[2]), BEYOND);
        }
        SmokeRings none = new SmokeRings();
        none.sheet(0, 8, 0);
        none.sheet(1, 8, 0);
        due("none of none", none.move(0, 0, 1, 0, 0), 0);
        due("one of none", none.move(0, 0, 1, 0, 1), BEYOND);
    }

    private void movesRefused() {
        says("38: BEYOND: no such SHEET. NONE: one is missing. KIND: they are of unlike bits.");
        for (int sheet : NO_SHEETS) {
            refusedEverywhere("move(" + sheet + ", 0, 0, 0, 0)", s -> s.move(sheet, 0, 0, 0, 0), BEYOND);
            refusedEverywhere("move(0, 0, " + sheet + ", 0, 0)", s -> s.move(0, 0, sheet, 0, 0), BEYOND);
        }
        refused("one is missing", Boundary::rich, s -> s.move(0, 0, 3, 0, 0), NONE);
        refused("one is missing", Boundary::rich, s -> s.move(3, 0, 0, 0, 0), NONE);
        refused("both are the same missing one", Boundary::rich, s -> s.move(3, 0, 3, 0, 0), NONE);
        refused("one is missing, n -1", Boundary::rich, s -> s.move(0, 0, 3, 0, -1), NONE);
        int[][] unlike = {{0, 1}, {1, 0}, {0, 2}, {2, 0}, {1, 2}, {2, 1}};
        for (int[] u : unlike) {
            refused("unlike bits", Boundary::rich, s -> s.move(u[0], 0, u[1], 0, 1), KIND);
            refused("unlike bits, n -1", Boundary::rich, s -> s.move(u[0], 0, u[1], 0, -1), KIND);
            refused("unlike bits, no numbers", Boundary::rich, s -> s.move(u[0], 0, u[1], 0, 0), KIND);
        }
    }

    private void imagesCounted() {
        says("40: kept as an IMAGE, in place of one ahead: how often that was done");
        SmokeRings s = new SmokeRings();
        due("first", s.image(), 1);
        s.hole(11);
        due("second", s.image(), 2);
        s.hole(12);
        due("restore", s.restore(), 0);
        due("in place of the one ahead", s.count(4), 11);
        due("(but) how often this was done", s.image(), 3);
    }

    private void imagesKeepAll() {
        says("40: All (but SHEETS, THE TRACE, what told() tells, and how often this was done) is kept");
        Maker[] makers = {SmokeRings::new, Boundary::rich, Boundary::full};
        for (Maker maker : makers) {
            SmokeRings kept = maker.make();
            kept.image();
            change(kept);
            kept.restore();
            SmokeRings like = maker.make();
            like.image();
            changeWhatIsNotKept(like);
            // what there is no room for is refused
            same("all that is kept", new Seen(kept).withoutErrors(), new Seen(like).withoutErrors());
        }
        says("40: (what is empty is kept, too)");
        SmokeRings empty = new SmokeRings();
        empty.image();
        change(empty);
        due("NOW", empty.restore(), 0);
        int[] due = {0, 0, 0, 0, 10, 0, 0, -1, 1};
        for (int what = 0; what <= 8; what++) {
            if (what != 7) {
                due("count(" + what + ")", empty.count(what), due[what]);
            }
        }
        due("no TEXT of STROKES", empty.gives(0, 40, 3, 10), 30);
        due("no TEXT of LOSSES", empty.gives(1, 100, 100, 0), 3);
        due("WALL", empty.wall(0), 99999);
        due("RINGS start from 0", plain(empty, 0, 1, 1), 0);
        due("LAWS start from 0", empty.law(0, 0), 0);
    }

    /** Changes all that an IMAGE keeps, as far as there is room for it, and what it doesn't keep. */
    private static void change(SmokeRings s) {
        s.ring(xy(5, 5), -1, 50, 505);
        s.end(0);
        s.law(1, 1);
        s.turn(0, 0);
        s.wall(-5);
        s.hole(33);
        s.text(0);
        text(s, 0, "77");
        text(s, 1, "66");
        s.seed(1234567);
        s.ticks(1);
        s.check(0);
        s.tell(-7);
        feed(s, "55");
        changeWhatIsNotKept(s);
    }

    private static void changeWhatIsNotKept(SmokeRings s) {
        numbers(s, 3, 16, 5, 6, 7);
        s.sheet(1, 0, 0);
    }

    private void imagesStay() {
        says("41: All is as the IMAGE has it, which stays: NOW.");
        SmokeRings s = rich();
        s.image();
        for (int i = 0; i < 3; i++) {
            s.ticks(10 + i);
            s.end(0);
            due("NOW", s.restore(), 3);
            due("RING 0 is whole", s.ofRing(0, 6), 1);
        }
        SmokeRings last = full();
        last.image();
        due("NOW 9999", last.restore(), 9999);
        SmokeRings early = new SmokeRings();
        early.image();
        goTo(early, 9999);
        due("no more TICKS", early.ticks(1), STATE);
        due("NOW 0", early.restore(), 0);
        due("TICKS go by again", early.ticks(100), 100);
        SmokeRings laws = new SmokeRings();
        laws.law(0, 5);
        laws.image();
        laws.law(1, 6);
        laws.restore();
        laws.law(2, 7);
        due("a LAW made behind it", laws.ofLaw(1, 0), 2);
        laws.restore();
        due("LAWS", laws.count(3), 1);
        due("a LAW that is no more", laws.ofLaw(1, 0), BEYOND);
        says("41: (SHEETS, THE TRACE, what told() tells stay as they are)");
        SmokeRings rest = rich();
        rest.image();
        rest.put(2, 3, 999);
        rest.sheet(0, 0, 0);
        rest.voice(0, 2, 0);
        rest.front();
        rest.wall(MOST);
        rest.restore();
        due("a number", rest.put(2, 3, 999), 1);
        due("a missing SHEET", rest.put(0, 0, 0), NONE);
        due("BODIES", rest.count(7), 2);
        due("told", rest.told(1), 2);
    }

    private void restoresRefused() {
        says("41: NONE: there is none.");
        refused("restore", SmokeRings::new, s -> s.restore(), NONE);
        refused("restore", () -> withRings(3), s -> s.restore(), NONE);
        SmokeRings s = new SmokeRings();
        due("none yet", s.restore(), NONE);
        due("how often", s.image(), 1);
        due("there is one", s.restore(), 0);
    }

    private void telling() {
        says("42: One more number waits: how many. FULL: 20 wait.");
        SmokeRings s = new SmokeRings();
        for (int i = 1; i <= 20; i++) {
            due("tell", s.tell(i % 2 == 0 ? LEAST : BEYOND), i);
            due("numbers that wait", s.count(6), i);
        }
        due("21", s.tell(0), FULL);
        refused("21", Boundary::full, r -> r.tell(0), FULL);
        s.check(0);
        for (int i = 1; i <= 20; i++) {
            due("anew", s.tell(0), i);
        }
        due("21", s.tell(0), FULL);
    }

    private static int check(SmokeRings s, int n, int... numbers) {
        for (int number : numbers) {
            s.tell(number);
        }
        return s.check(n);
    }

    private void checkingOrder() {
        says("43: all whole RINGS, the farthest in X first, of like ones the least number: 0");
        SmokeRings s = new SmokeRings();
        due("no RINGS, no numbers", check(s, 0), 0);
        for (int x : new int[] {-99999, 5, 5, 99999, 4, 5, 6, 99999}) {
            plain(s, x, 1, 0);
        }
        due("all eight", check(s, 0, 3, 7, 6, 1, 2, 5, 4, 0), 0);
        due("like ones in another order", check(s, 0, 7, 3, 6, 1, 2, 5, 4, 0), 1);
        due("like ones in another order", check(s, 0, 3, 7, 6, 2, 1, 5, 4, 0), 4);
        due("like ones in another order", check(s, 0, 3, 7, 6, 1, 5, 2, 4, 0), 5);
        due("the last two turned", check(s, 0, 3, 7, 6, 1, 2, 5, 0, 4), 7);
        s.end(3);
        due("one that is gone", check(s, 0, 3, 7, 6, 1, 2, 5, 4, 0), 1);
        due("whole ones alone", check(s, 0, 7, 6, 1, 2, 5, 4, 0), 0);
        due("all are gone in a TICK", check(s, 1), 0);
        due("all are gone in a TICK", check(s, 60, 7), 1);
    }

    private void checkingAhead() {
        says("43: AHEAD by n");
        SmokeRings s = lossless();
        plain(s, 0, 1, 20);
        plain(s, -59, 1, 24);
        due("now", check(s, 0, 0, 1), 0);
        due("like X in TICK 59", check(s, 59, 0, 1), 0);
        due("TICK 60", check(s, 60, 1, 0), 0);
        due("TICK 60", check(s, 60, 0, 1), 1);
        due("nothing has gone by", s.count(0), 0);
        due("nothing has gone by", s.ofRing(0, 0), 0);
    }

    private void checkingPlaces() {
        says("43: else 1 and the place (from 0) of the first that isn't so, or is missing");
        SmokeRings s = withRings(3);
        due("right", check(s, 0, 2, 1, 0), 0);
        due("the first is missing", check(s, 0), 1);
        due("the second is missing", check(s, 0, 2), 2);
        due("the third is missing", check(s, 0, 2, 1), 3);
        due("one too many", check(s, 0, 2, 1, 0, 0), 4);
        due("many too many", check(s, 0, 2, 1, 0, 9, 9, 9, 9, 9, 9, 9, 9, 9, 9, 9, 9, 9, 9, 9, 9, 9), 4);
        due("the first isn't so", check(s, 0, 1, 1, 0), 1);
        due("the second isn't so", check(s, 0, 2, 0, 1), 2);
        due("the third isn't so", check(s, 0, 2, 1, 2), 3);
        due("one twice", check(s, 0, 2, 2, 1, 0), 2);
        due("no RING", check(s, 0, 3), 1);
        due("no RING", check(s, 0, -1), 1);
        due("no RING", check(s, 0, 2, 1, LEAST), 3);
        due("no RING", check(s, 0, 2, MOST, 0), 2);
        due("none where there are none", check(new SmokeRings(), 0, 0), 1);
        due("20 numbers for 8 RINGS", check(withRings(8), 0, 7, 6, 5, 4, 3, 2, 1, 0, 0, 0, 0, 0, 0, 0, 0, 0, 0, 0, 0, 0), 9);
        says("43: The numbers that wait (none do then)");
        SmokeRings none = withRings(3);
        check(none, 0, 2, 1, 0);
        due("right", none.count(6), 0);
        check(none, 0, 1);
        due("wrong", none.count(6), 0);
        due("they were all taken", none.check(0), 1);
    }

    private void checksRefused() {
        says("43: BEYOND (none wait then, too).");
        for (int n : new int[] {-1, 61, LEAST, MOST}) {
            SmokeRings s = rich();
            due("check(" + n + ")", s.check(n), BEYOND);
            due("none wait then", s.count(6), 0);
            SmokeRings like = rich();
            like.check(0);
            same("only the numbers that wait are gone", new Seen(s), new Seen(like).withError(BEYOND));
            SmokeRings full = full();
            due("check(" + n + ")", full.check(n), BEYOND);
            due("none wait then", full.count(6), 0);
            refused("check(" + n + ")", SmokeRings::new, r -> r.check(n), BEYOND);
        }
        SmokeRings s = rich();
        due("60 is none beyond", s.check(60) >= 0 ? 1 : 0, 1);
    }

    private void counts() {
        says("44: 0 NOW, 1 RINGS, 2 whole ones, 3 LAWS, 4 HOLE, 5 bytes of THE TAPE, 6 numbers that wait, 7 BODIES, 8 z");
        int[] ofFull = {9999, 8, 7, 6, 10, 50, 20, 9, 1};
        int[] ofNone = {0, 0, 0, 0, 10, 0, 0, 0, 1};
        for (int what = 0; what <= 8; what++) {
            int asked = what;
            looks("count(" + what + ") of a full one", Boundary::full, s -> s.count(asked), ofFull[what]);
            looks("count(" + what + ") of a new one", SmokeRings::new, s -> s.count(asked), ofNone[what]);
        }
        says("44: BEYOND.");
        for (int what : new int[] {-1, 9, LEAST, MOST}) {
            refusedEverywhere("count(" + what + ")", s -> s.count(what), BEYOND);
        }
        says("44: z (any number)");
        SmokeRings s = new SmokeRings();
        s.seed(BEYOND);
        due("z", s.count(8), BEYOND);
        due("no ERROR", s.told(1), 0);
    }

    private void told() {
        says("45: How many acts have answered an ERROR LOW - k (k 1 .. 5)");
        SmokeRings s = withRings(8);
        s.law(0, 0);
        for (int i = 1; i <= 3; i++) {
            s.wall(MOST);
            due("BEYOND", s.told(1), i);
            s.trace(0);
            due("NONE", s.told(2), i);
            s.sheet(0, 8, -1);
            due("STATE", s.told(3), i);
            s.stroke(1, 1);
            due("FULL", s.told(4), i);
            s.as(0, 1);
            due("KIND", s.told(5), i);
        }
        looks("told(1)", Boundary::rich, r -> r.told(1), 1);
        looks("told(5)", Boundary::rich, r -> r.told(5), 1);
        looks("told(2)", Boundary::rich, r -> r.told(2), 0);
        says("45: BEYOND: another k (counted, too).");
        for (int k : new int[] {0, 6, -1, LEAST, MOST}) {
            refusedEverywhere("told(" + k + ")", r -> r.told(k), BEYOND);
        }
        SmokeRings none = new SmokeRings();
        none.told(0);
        none.told(6);
        due("counted, too", none.told(1), 2);
        says("45: (a FAULT is no ERROR, nor is a number that is as low as one)");
        SmokeRings other = new SmokeRings();
        other.text(0);
        other.seed(KIND);
        other.seed(0);
        for (int k = 1; k <= 5; k++) {
            due("told(" + k + ")", other.told(k), 0);
        }
    }
}
