/** The boundary cases of promises 12 to 17 and of what "Terms" 2 says of TEXTS, USES, STROKES. */
public final class StrokesTextsBoundaryTest extends Boundary {
    public static void main(String[] args) {
        StrokesTextsBoundaryTest test = new StrokesTextsBoundaryTest();
        test.holes();
        test.boundsOfStrokes();
        test.strokesAreRings();
        test.fullOfStrokes();
        test.trailing();
        test.boundsOfFeeding();
        test.bytesOfWords();
        test.fullTape();
        test.textsReplace();
        test.textsRefused();
        test.faultsLeaveTheOneAhead();
        test.placesOfFaults();
        test.textsThatEndTooEarly();
        test.numbersAndNames();
        test.openAtOnce();
        test.noComparisonOfComparisons();
        test.signsBindInOrder();
        test.intsWrap();
        test.divisionsByZero();
        test.truths();
        test.heldGifts();
        test.withoutText();
        test.givesRefused();
        test.finish();
    }

    private void holes() {
        says("12: HOLE (1 to 50; 10 at first) becomes so: what it was. BEYOND.");
        SmokeRings s = new SmokeRings();
        due("at first", s.hole(1), 10);
        due("the least", s.hole(50), 1);
        due("the most", s.hole(49), 50);
        due("HOLE", s.count(4), 49);
        for (int v : new int[] {0, 51, -1, LEAST, MOST}) {
            refusedEverywhere("hole(" + v + ")", r -> r.hole(v), BEYOND);
        }
    }

    private void boundsOfStrokes() {
        says("13: A STROKE (how long 1 to 400, how quick 1 to 99). BEYOND: how long, how quick.");
        int[][] bounds = {{1, 1, 0}, {1, 99, 24}, {400, 1, 10}, {400, 99, 990}, {4, 1, 1}, {3, 1, 0}};
        for (int[] b : bounds) {
            SmokeRings s = new SmokeRings();
            due("stroke(" + b[0] + ", " + b[1] + ")", s.stroke(b[0], b[1]), 0);
            traits("a stroke", s, 0, 0, 0, 1, b[2], 10, 3, 1);
        }
        for (int bad : new int[] {0, 401, -1, LEAST, MOST}) {
            refusedEverywhere("stroke(" + bad + ", 1)", s -> s.stroke(bad, 1), BEYOND);
        }
        for (int bad : new int[] {0, 100, -1, LEAST, MOST}) {
            refusedEverywhere("stroke(1, " + bad + ")", s -> s.stroke(1, bad), BEYOND);
        }
    }

    private void strokesAreRings() {
        says("13: a RING at X 0, Y 0, WAY 1, WIDE HOLE, THICK 1 and HOLE by 5, TURNING as told");
        int[][] holes = {{1, 1}, {4, 1}, {5, 2}, {9, 2}, {10, 3}, {49, 10}, {50, 11}};
        for (int[] h : holes) {
            SmokeRings s = new SmokeRings();
            s.hole(h[0]);
            s.stroke(400, 1);
            traits("HOLE " + h[0], s, 0, 0, 0, 1, h[0], h[0], h[1], 1);
        }
        SmokeRings turning = withTexts("l*q", "0");
        turning.stroke(9, 99);
        turning.stroke(11, 91);
        turning.stroke(27, 37);
        turning.stroke(8, 125 / 5);
        due("891", turning.ofRing(0, 3), 891);
        due("1001 is held", turning.ofRing(1, 3), 999);
        due("999", turning.ofRing(2, 3), 999);
        due("200", turning.ofRing(3, 3), 200);
        SmokeRings low = withTexts("q-l", "0");
        low.stroke(2, 1);
        low.stroke(2, 2);
        low.stroke(2, 3);
        due("-1 is held", low.ofRing(0, 3), 0);
        due("0", low.ofRing(1, 3), 0);
        due("1", low.ofRing(2, 3), 1);
        due("whole even with TURNING 0", low.count(2), 3);
        SmokeRings wall = new SmokeRings();
        wall.wall(-99999);
        wall.stroke(40, 9);
        due("X 0, wherever WALL is", wall.ofRing(0, 0), 0);
        SmokeRings names = withTexts("l*100+q*10+h", "0");
        names.hole(7);
        names.stroke(5, 6);
        due("l, q, h", names.ofRing(0, 3), 567);
    }

    private void fullOfStrokes() {
        says("13: FULL.");
        SmokeRings s = withRings(7);
        due("an eighth", s.stroke(1, 1), 7);
        due("RINGS", s.count(1), 8);
        refused("a ninth", () -> withRings(8), r -> r.stroke(1, 1), FULL);
        refused("a ninth, one being gone", Boundary::full, r -> r.stroke(400, 99), FULL);
        refused("a ninth, 0 long", Boundary::full, r -> r.stroke(0, 1), BEYOND);
        refused("a ninth, 100 quick", Boundary::full, r -> r.stroke(1, 100), BEYOND);
    }

    private void trailing() {
        says("14: TRAILS: how long less 4 * HOLE, 0 at least. (1 to 400). BEYOND.");
        int[][] cases = {{10, 1, 0}, {10, 39, 0}, {10, 40, 0}, {10, 41, 1}, {10, 400, 360}, {1, 3, 0}, {1, 4, 0}, {1, 5, 1},
            {1, 400, 396}, {50, 199, 0}, {50, 200, 0}, {50, 201, 1}, {50, 400, 200}};
        for (int[] c : cases) {
            SmokeRings s = new SmokeRings();
            s.hole(c[0]);
            due("trails(" + c[1] + ") by HOLE " + c[0], s.trails(c[1]), c[2]);
        }
        looks("trails(400)", Boundary::rich, s -> s.trails(400), 312);
        for (int l : new int[] {0, 401, -1, LEAST, MOST}) {
            refusedEverywhere("trails(" + l + ")", s -> s.trails(l), BEYOND);
        }
    }

    private void boundsOfFeeding() {
        says("15: The n lowest bytes (1 .. 8) of a word come to THE TAPE: how many there are. BEYOND.");
        SmokeRings s = new SmokeRings();
        due("1", s.feed(0x3131313131313131L, 1), 1);
        due("8 more", s.feed(0x3131313131313131L, 8), 9);
        for (int n : new int[] {0, 9, -1, LEAST, MOST}) {
            refusedEverywhere("feed(49, " + n + ")", r -> r.feed(49L, n), BEYOND);
        }
    }

    private void bytesOfWords() {
        says("15: the n lowest bytes, the lowest first");
        // the 8 signs are 8-7+6-5, the 5 standing highest
        long word = 0x352d362b372d38L | 0x3900000000000000L;
        int[] due = {8, -12, 1, -14, 7, -16, 2, 999};
        for (int n = 1; n <= 7; n++) {
            SmokeRings s = new SmokeRings();
            due("feed", s.feed(word, n), n);
            int answer = s.text(0);
            due("the first " + n, answer == 1 ? s.gives(0, 0, 0, 0) : answer, due[n - 1]);
        }
        SmokeRings all = new SmokeRings();
        all.feed(word, 8);
        due("8-7+6-59", all.text(0), 1);
        due("it is below 0", all.gives(0, 0, 0, 0), 0);
        SmokeRings high = new SmokeRings();
        due("a word below 0", high.feed(-1L, 8), 8);
        due("bytes of 255", high.text(0), -10);
        SmokeRings one = new SmokeRings();
        one.feed(0xffffffffffffff39L, 1);
        due("what is above doesn't matter", one.text(0), 1);
        due("9", one.gives(0, 0, 0, 0), 9);
        SmokeRings last = new SmokeRings();
        last.feed(0xb131313131313131L, 8);
        due("the highest byte keeps its bits", last.text(0), -10 - 4);
        SmokeRings signs = new SmokeRings();
        feed(signs, "1+1+1+");
        signs.feed(0xb1, 1);
        due("byte 0xb1 is no digit", signs.text(0), -10 - 6);
        SmokeRings more = new SmokeRings();
        more.feed('l', 1);
        more.feed('+', 1);
        more.feed('q', 1);
        due("behind those that are there", more.text(0), 1);
        due("l+q", more.gives(0, 20, 3, 0), 23);
    }

    private void fullTape() {
        says("15: THE TAPE (bytes, at most 50). FULL.");
        for (int n = 1; n <= 8; n++) {
            int last = n;
            Maker almost = () -> {
                SmokeRings s = new SmokeRings();
                feed(s, "1+1+1+1+1+1+1+1+1+1+1+1+1+1+1+1+1+1+1+1+1+1+1+1+11".substring(0, 50 - last));
                return s;
            };
            SmokeRings s = almost.make();
            due("bytes", s.count(5), 50 - n);
            due(n + " more", s.feed(0x3131313131313131L, n), 50);
            due("bytes", s.count(5), 50);
            if (n < 8) {
                refused((n + 1) + " more", almost, r -> r.feed(0x3131313131313131L, last + 1), FULL);
            }
        }
        refused("1 more than 50", Boundary::full, s -> s.feed(49L, 1), FULL);
        refused("8 more than 50", Boundary::full, s -> s.feed(49L, 8), FULL);
        says("15: BEYOND. FULL. (in this order)");
        refused("9 more than 50", Boundary::full, s -> s.feed(49L, 9), BEYOND);
        refused("0 more than 50", Boundary::full, s -> s.feed(49L, 0), BEYOND);
    }

    private void textsReplace() {
        says("16: THE TAPE, which is empty then, is the TEXT of a USE (0, 1), in place of one ahead: 1.");
        for (int use = 0; use <= 1; use++) {
            SmokeRings s = new SmokeRings();
            due("a long one", text(s, use, use == 0 ? "1+1+1+1+1+1+1+l" : "1+1+1+1+1+1+1+t"), 1);
            due("it gives", s.gives(use, 5, 0, 0), 12);
            due("empty then", s.count(5), 0);
            due("a short one", text(s, use, "3"), 1);
            due("it gives", s.gives(use, 5, 0, 0), 3);
            due("the other USE has none", s.gives(1 - use, 100, 100, 50), use == 0 ? 3 : 999);
            due("nothing is no TEXT", s.text(use), -10);
            due("the one ahead stays", s.gives(use, 5, 0, 0), 3);
        }
        SmokeRings whole = new SmokeRings();
        due("50 bytes", text(whole, 0, "1+1+1+1+1+1+1+1+1+1+1+1+1+1+1+1+1+1+1+1+1+1+1+1+11"), 1);
        due("they give", whole.gives(0, 0, 0, 0), 35);
        due("50 bytes, each with a meaning", text(whole, 0, "!1+1+1+1+1+1+1+1+1+1+1+1+1+1+1+1+1+1+1+1+1+1+1+1+1"), 1);
        due("they give", whole.gives(0, 0, 0, 0), 24);
        due("50 bytes, of which 5 are open", text(whole, 0, "(((((1+1+1+1+1+1+1+1+1+1+1+1+1+1+1+1+1+1+1+10)))))"), 1);
        due("they give", whole.gives(0, 0, 0, 0), 29);
        due("THE TAPE has room for 50 anew", text(whole, 1, "((((((((((((((((((((((((((((((((((((((((((((((((((("), -15);
    }

    private void textsRefused() {
        says("16: BEYOND (THE TAPE stays).");
        for (int use : new int[] {-1, 2, LEAST, MOST}) {
            refusedEverywhere("text(" + use + ")", s -> s.text(use), BEYOND);
        }
        SmokeRings s = new SmokeRings();
        feed(s, "l*7");
        due("text(2)", s.text(2), BEYOND);
        due("bytes", s.count(5), 3);
        due("text(0)", s.text(0), 1);
        due("l*7", s.gives(0, 6, 0, 0), 42);
    }

    private void faultsLeaveTheOneAhead() {
        says("16: -10 less the FAULT (no ERROR; the one ahead stays).");
        SmokeRings s = withTexts("l+7", "t+8");
        for (String bad : new String[] {"", "x", "l+", "(q", "1<2<3", "q)", "t", "12345"}) {
            due("text " + bad, text(s, 0, bad) <= -10 ? 1 : 0, 1);
            due("the one ahead of " + bad, s.gives(0, 5, 99, 99), 12);
            due("bytes", s.count(5), 0);
        }
        for (String bad : new String[] {"", "l", "k-", "!(", "q", "h", "t!"}) {
            due("text " + bad, text(s, 1, bad) <= -10 ? 1 : 0, 1);
            due("the one ahead of " + bad, s.gives(1, 5, 99, 99), 13);
        }
        for (int k = 1; k <= 5; k++) {
            due("no ERROR", s.told(k), 0);
        }
        says("16: (what one has left open or begun is no part of the next)");
        for (String bad : new String[] {"(((((", "!!!!!", "!(!(!", "((((((", "(((((1+", "1234", "12", "l+7", "12x", "l1"}) {
            SmokeRings next = new SmokeRings();
            text(next, 0, bad);
            due("5 open behind " + bad, text(next, 0, "(((((l)))))"), 1);
            text(next, 0, bad);
            due("5 open behind " + bad, text(next, 0, "!!!!!l"), 1);
            text(next, 0, bad);
            due("l1 behind " + bad, text(next, 0, "l1"), -11);
            text(next, 0, bad);
            due("12345 behind " + bad, text(next, 0, "12345"), -14);
            text(next, 0, bad);
            due("1234 behind " + bad, text(next, 0, "1234-1230"), 1);
            due("it gives", next.gives(0, 0, 0, 0), 4);
        }
        SmokeRings none = new SmokeRings();
        text(none, 0, "9+");
        due("none ahead stays none", none.gives(0, 40, 5, 10), 50);
    }

    private void fault(int use, String text, int place) {
        due("text(" + use + ") of " + text, text(new SmokeRings(), use, text), -10 - place);
    }

    private void fine(String text, int gives) {
        SmokeRings s = new SmokeRings();
        due("text(0) of " + text, text(s, 0, text), 1);
        due(text, s.gives(0, 3, 4, 5), gives);
    }

    private void placesOfFaults() {
        says("16: FAULT: the place of the first byte with which no TEXT goes on");
        for (String sign : new String[] {"|", "&", "<", "=", ">", "+", "-", "*", "/", "%", ")", " ", "x", "\u0000", "\u007f", "\u00ff",
            "\n", ":", "'"}) {
            fault(0, sign, 0);
            fault(0, "l+" + sign, 2);
            fault(0, "(" + sign, 1);
            fault(0, "!" + sign + "1", 1);
        }
        for (String sign : new String[] {"!", "(", " ", "l", "q", "h", "x", "\u0000", "\u00ff", ":"}) {
            fault(0, "q" + sign, 1);
            fault(0, "(q)" + sign, 3);
            fault(0, "!q" + sign + "1", 2);
        }
        fault(0, "12l", 2);
        fault(0, "l2", 1);
        fault(0, "l)", 1);
        fault(0, "(l))", 3);
        fault(0, "l+q) ", 3);
        fault(0, "xyz", 0);
        fault(0, "1+1+1+1+1+1+1+1+1+1+1+1+1+1+1+1+1+1+1+1+1+1+1+1+1x", 49);
        fault(0, "x+1+1+1+1+1+1+1+1+1+1+1+1+1+1+1+1+1+1+1+1+1+1+1+11", 0);
    }

    private void textsThatEndTooEarly() {
        says("16: FAULT: how many there are, if it ends too early");
        fault(0, "", 0);
        fault(1, "", 0);
        fault(0, "!", 1);
        fault(0, "(", 1);
        fault(0, "(l", 2);
        fault(0, "l+", 2);
        fault(0, "l<", 2);
        fault(0, "l|q&", 4);
        fault(0, "((l)", 4);
        fault(0, "!(!(l)", 6);
        fault(0, "1+1+1+1+1+1+1+1+1+1+1+1+1+1+1+1+1+1+1+1+1+1+1+1+1+", 50);
        fault(0, "(+1+1+1+1+1+1+1+1+1+1+1+1+1+1+1+1+1+1+1+1+1+1+1+1+", 1);
        fault(0, "(1+1+1+1+1+1+1+1+1+1+1+1+1+1+1+1+1+1+1+1+1+1+1+1+1", 50);
    }

    private void numbersAndNames() {
        says("16: Q: a NUMBER of 1 to 4 digits, a NAME. No blanks.");
        fine("0", 0);
        fine("9", 9);
        fine("0009", 9);
        fine("999", 999);
        fine("9999-9000", 999);
        fine("9999/9999", 1);
        fine("0000", 0);
        fault(0, "12345", 4);
        fault(0, "00000", 4);
        fault(0, "1+12345", 6);
        fault(0, "(1234)5", 6);
        fault(0, "(1)2", 3);
        fault(0, "1+l2", 3);
        fault(0, "1*(l)2", 5);
        fault(0, "12+q3", 4);
        fine("1234-1230+1234-1230", 8);
        fine("l", 3);
        fine("q", 4);
        fine("h", 5);
        for (String name : new String[] {"t", "w", "k", "a", "L", "Q", "H", "/", "g", "i", "m", "p", "r"}) {
            fault(0, name, 0);
        }
        for (String name : new String[] {"l", "q", "h", "T", "W", "K", "s", "u", "v", "x", "j"}) {
            fault(1, name, 0);
        }
        SmokeRings loss = new SmokeRings();
        due("t*100+w*10+k", text(loss, 1, "t*100+w*10+k"), 1);
        due("t, w, k", loss.gives(1, 3, 4, 5), 345);
        fault(0, " l", 0);
        fault(0, "l ", 1);
        fault(0, "l +q", 1);
        fault(0, "l+ q", 2);
    }

    private void openAtOnce() {
        says("16: At most 5 of ! and ( are open at once.");
        fine("!!!!!l", 0);
        fine("!!!!l", 1);
        fault(0, "!!!!!!l", 5);
        fine("(((((l)))))", 3);
        fault(0, "((((((l))))))", 5);
        fine("!(!(!l))", 0);
        fault(0, "!(!(!(l)))", 5);
        fault(0, "(((((!l)))))", 5);
        fine("((((!l))))", 0);
        fault(0, "!!!!!(l)", 5);
        fine("!!!!(l)", 1);
        says("16: (those that are closed are open no more)");
        fine("!l+!l+!l+!l+!l+!l+!0", 1);
        fine("!!!!!l+!!!!!0", 1);
        fine("(l)+(l)+(l)+(l)+(l)+(l)", 18);
        fine("(((((l)))))+(((((q)))))", 7);
        fine("((((l)+(q))+(h)))", 12);
        fine("!(l)+!(l)+!(l)+!(0)", 1);
        fine("(!l+!(!l)+!!!!0)", 1);
        fault(0, "(!l+!(!l)+!!!!(0))", 14);
        fault(0, "(((((l)+(q", 10);
        fault(0, "(((((l)+((q", 9);
        fine("(((((l)*q)+(h))))", 17);
        fault(0, "!!!!!l*!!!!!!0", 12);
    }

    private void noComparisonOfComparisons() {
        says("16: B: S, or S < S, S = S, S > S.");
        for (String first : new String[] {"<", "=", ">"}) {
            for (String second : new String[] {"<", "=", ">"}) {
                fault(0, "l" + first + "q" + second + "h", 3);
                fault(0, "l" + first + second, 2);
                fault(0, "(l" + first + "q" + second + "h)", 4);
                due("with ( )", text(new SmokeRings(), 0, "(l" + first + "q)" + second + "h"), 1);
                due("with &", text(new SmokeRings(), 0, "l" + first + "q&l" + second + "h"), 1);
                due("with |", text(new SmokeRings(), 0, "l" + first + "q|l" + second + "h"), 1);
                fault(0, "l" + first + "q+1*2" + second + "h", 7);
            }
        }
    }

    private void signsBindInOrder() {
        says("16: T: A { | A }. A: B { & B }. B .. S: P { + P, - P }. P: Q { * Q, / Q, % Q }.");
        fine("9-4-3", 2);
        fine("9-(4-3)", 8);
        fine("9-4+3", 8);
        fine("90/9/5", 2);
        fine("90/9*5", 50);
        fine("90/(9*5)", 2);
        fine("90%50%15", 10);
        fine("2*9%5", 3);
        fine("2+3*4", 14);
        fine("2*3+4", 10);
        fine("9-6/3", 7);
        fine("2+3<4", 0);
        fine("4<2+3", 1);
        fine("2+(3<4)", 3);
        fine("1=1&2", 1);
        fine("2&1=1", 1);
        fine("1|1&0", 1);
        fine("0&1|1", 1);
        fine("(1|1)&0", 0);
        fine("1|2=2", 1);
        fine("!0*7", 7);
        fine("!(0*7)", 1);
        fine("!l+9", 9);
        fine("!0<1", 0);
        fine("!1=1", 0);
        fine("!(1=2)", 1);
    }

    private void intsWrap() {
        says("17: Ints that wrap");
        SmokeRings s = new SmokeRings();
        text(s, 0, "(l+q<0)+(l-h<0)*10");
        due("the most and 1; the least less 1", s.gives(0, MOST, 1, -1), 11);
        text(s, 0, "(l-q>0)+(l*h=l)*10");
        due("the least less 1; the least by -1", s.gives(0, LEAST, 1, -1), 11);
        text(s, 0, "l*q");
        due("65536 * 65536", s.gives(0, 65536, 65536, 0), 0);
        due("65537 * 65537 is 131073", s.gives(0, 65537, 65537, 0), 999);
        due("65536 * 32768 is the least", s.gives(0, 65536, 32768, 0), 0);
        due("715827883 * 6 is 2", s.gives(0, 715827883, 6, 0), 2);
        text(s, 0, "9999*9999*9999*9999=h");
        due("9999 to the fourth is 9996000599960001, wrapped", s.gives(0, 0, 0, 1089432001), 1);
        says("17: / cut, % the rest that it leaves");
        text(s, 0, "l/q+100");
        due("-7 / 2", s.gives(0, -7, 2, 0), 97);
        due("7 / -2", s.gives(0, 7, -2, 0), 97);
        due("-7 / -2", s.gives(0, -7, -2, 0), 103);
        due("-1 / 2", s.gives(0, -1, 2, 0), 100);
        text(s, 0, "l%q+100");
        due("-7 % 2", s.gives(0, -7, 2, 0), 99);
        due("7 % -2", s.gives(0, 7, -2, 0), 101);
        due("-7 % -2", s.gives(0, -7, -2, 0), 99);
        text(s, 0, "l/q=h");
        due("the least / -1", s.gives(0, LEAST, -1, LEAST), 1);
        text(s, 0, "l%q=h");
        due("the least % -1", s.gives(0, LEAST, -1, 0), 1);
    }

    private void divisionsByZero() {
        says("17: / .. %, both by 0 are 0");
        fine("5/0", 0);
        fine("5%0", 0);
        fine("0/0", 0);
        fine("0%0", 0);
        fine("7+5/0", 7);
        fine("7+5%0", 7);
        fine("7/(l-3)+1", 1);
        fine("7%(l-3)+1", 1);
        fine("8/0*3+2", 2);
        SmokeRings s = withTexts("l/q+l%q+3", "t/w+t%k+4");
        due("the least by 0", s.gives(0, LEAST, 0, 0), 3);
        due("the most by 0", s.gives(1, MOST, 0, 0), 4);
        says("17: all is worked out");
        fine("1|5/0", 1);
        fine("0&5/0", 0);
    }

    private void truths() {
        says("17: | & < = > ! are 1 or 0, what is not 0 being true");
        SmokeRings s = new SmokeRings();
        String[] texts = {"l|q", "l&q", "l<q", "l=q", "l>q", "!l"};
        int[][] cases = {
            // l, q and what each of the texts gives
            {0, 0, 0, 0, 0, 1, 0, 1}, {5, 0, 1, 0, 0, 0, 1, 0}, {0, 5, 1, 0, 1, 0, 0, 1}, {5, 5, 1, 1, 0, 1, 0, 0},
            {-1, 0, 1, 0, 1, 0, 0, 0}, {-1, -2, 1, 1, 0, 0, 1, 0}, {2, 1, 1, 1, 0, 0, 1, 0},
            {LEAST, MOST, 1, 1, 1, 0, 0, 0}, {MOST, LEAST, 1, 1, 0, 0, 1, 0}, {LEAST, LEAST, 1, 1, 0, 1, 0, 0}};
        for (int i = 0; i < texts.length; i++) {
            due("text " + texts[i], text(s, 0, texts[i]), 1);
            for (int[] c : cases) {
                due(texts[i] + " of " + c[0] + ", " + c[1], s.gives(0, c[0], c[1], 0), c[2 + i]);
            }
        }
    }

    private void heldGifts() {
        says("17: USES: 0 .. held within 0 to 999; 1 .. held within 0 to 999");
        SmokeRings s = withTexts("l", "t");
        for (int use = 0; use <= 1; use++) {
            due("-1", s.gives(use, -1, 5, 5), 0);
            due("0", s.gives(use, 0, 5, 5), 0);
            due("1", s.gives(use, 1, 5, 5), 1);
            due("998", s.gives(use, 998, 5, 5), 998);
            due("999", s.gives(use, 999, 5, 5), 999);
            due("1000", s.gives(use, 1000, 5, 5), 999);
            due("the least", s.gives(use, LEAST, 5, 5), 0);
            due("the most", s.gives(use, MOST, 5, 5), 999);
        }
        looks("gives", Boundary::rich, r -> r.gives(0, 500, 499, -7), 999);
        looks("gives", Boundary::rich, r -> r.gives(1, 500, 0, -7), 1);
    }

    private void withoutText() {
        says("17: without a TEXT as that of q*(l<h*4)*l/4+q*!(l<h*4)*h would give; without as that of t/50+w/100 would");
        SmokeRings without = new SmokeRings();
        SmokeRings with = withTexts("q*(l<h*4)*l/4+q*!(l<h*4)*h", "t/50+w/100");
        int[] some = {0, 1, -1, 3, 4, 5, 10, 39, 40, 41, 49, 50, 51, 99, 100, 101, 400, 999, 1 << 16, 1 << 29, 1 << 30, LEAST,
            MOST, LEAST + 3, MOST - 3};
        for (int a : some) {
            for (int b : some) {
                for (int c : new int[] {0, 1, 2, 10, 50, -1, 1 << 29, 1 << 30, LEAST, MOST}) {
                    for (int use = 0; use <= 1; use++) {
                        int got = without.gives(use, a, b, c);
                        if (got != with.gives(use, a, b, c)) {
                            due("gives(" + use + ", " + a + ", " + b + ", " + c + ")", got, with.gives(use, a, b, c));
                        }
                    }
                }
            }
        }
        due("l 39 of 40", without.gives(0, 39, 4, 10), 39);
        due("l 40 of 40", without.gives(0, 40, 4, 10), 40);
        due("l 41 of 40", without.gives(0, 41, 4, 10), 40);
        due("cut", without.gives(0, 1, 3, 10), 0);
        due("held", without.gives(0, 400, 20, 50), 999);
        due("999", without.gives(0, 400, 27, 37), 999);
        due("998", without.gives(0, 400, 2 * 499, 1), 998);
        due("below 0", without.gives(0, 400, -1, 50), 0);
        due("t 49", without.gives(1, 49, 0, 0), 0);
        due("t 50", without.gives(1, 50, 0, 0), 1);
        due("w 99", without.gives(1, 0, 99, 0), 0);
        due("w 100", without.gives(1, 0, 100, 0), 1);
        due("each is cut by itself", without.gives(1, 49, 99, 99), 0);
        due("k doesn't matter", without.gives(1, 50, 100, MOST), 2);
        due("t 999, w 200", without.gives(1, 999, 200, 1), 21);
        due("t 49950", without.gives(1, 49950, 0, 0), 999);
        due("t 50000", without.gives(1, 50000, 0, 0), 999);
        due("t 49949", without.gives(1, 49949, 0, 0), 998);
    }

    private void givesRefused() {
        says("17: BEYOND.");
        for (int use : new int[] {-1, 2, LEAST, MOST}) {
            refusedEverywhere("gives(" + use + ", 1, 2, 3)", s -> s.gives(use, 1, 2, 3), BEYOND);
        }
    }
}
