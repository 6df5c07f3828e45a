import java.util.HashSet;
import java.util.Set;

/** What the tests of boundary cases share: each names a sentence of the document and asks for what is due by it. */
abstract class Boundary {
    static final int BEYOND = -1000000001;
    static final int NONE = -1000000002;
    static final int STATE = -1000000003;
    static final int FULL = -1000000004;
    static final int KIND = -1000000005;
    static final int LEAST = Integer.MIN_VALUE;
    static final int MOST = Integer.MAX_VALUE;

    private String sentence = "";
    private final Set<String> sentences = new HashSet<>();
    private int asked = 0;
    private int wrong = 0;

    interface Act {
        int on(SmokeRings s);
    }

    interface Maker {
        SmokeRings make();
    }

    /** The sentence by which is due what follows. */
    final void says(String sentence) {
        this.sentence = sentence;
        sentences.add(sentence);
    }

    final void due(String call, int got, int want) {
        asked++;
        if (got != want) {
            wrong++;
            System.out.println("\"" + sentence + "\": " + call + " answered " + got + ", due is " + want);
        }
    }

    /** An act that answers an ERROR changes nothing but what told() tells. */
    final void refused(String call, Maker maker, Act act, int error) {
        SmokeRings s = maker.make();
        due(call, act.on(s), error);
        same(call + " was refused", new Seen(s), new Seen(maker.make()).withError(error));
    }

    /** Refused whatever the object holds. */
    final void refusedEverywhere(String call, Act act, int error) {
        refused(call, SmokeRings::new, act, error);
        refused(call, Boundary::rich, act, error);
        refused(call, Boundary::full, act, error);
    }

    /** An act that only looks changes nothing at all. */
    final void looks(String call, Maker maker, Act act, int answer) {
        SmokeRings s = maker.make();
        due(call, act.on(s), answer);
        same(call + " only looks", new Seen(s), new Seen(maker.make()));
    }

    /** Likewise, whatever it answers. */
    final void leavesAll(String call, Maker maker, Act act) {
        SmokeRings s = maker.make();
        int answer = act.on(s);
        Seen want = new Seen(maker.make());
        same(call + " only looks", new Seen(s), answer >= KIND && answer <= BEYOND ? want.withError(answer) : want);
    }

    final void same(String what, Seen got, Seen want) {
        asked++;
        String unlike = got.unlike(want);
        if (!unlike.isEmpty()) {
            wrong++;
            System.out.println("\"" + sentence + "\": " + what + ", but " + unlike);
        }
    }

    final void traits(String what, SmokeRings s, int ring, int... due) {
        for (int i = 0; i < due.length; i++) {
            due(what + ": ofRing(" + ring + ", " + i + ")", s.ofRing(ring, i), due[i]);
        }
    }

    final void finish() {
        System.out.println(wrong == 0 ? "all " + asked + " answers for " + sentences.size() + " sentences are as due"
            : wrong + " answers are not as due");
        if (wrong != 0) {
            System.exit(1);
        }
    }

    static int xy(int x, int y) {
        return 2000 * (x + 100000) + y + 1000;
    }

    /** A RING of WIDE 20 and THICK 4 at Y 0: its PACE is 6 * TURNING / 20. */
    static int plain(SmokeRings s, int x, int way, int turning) {
        return s.ring(xy(x, 0), way, turning, 2004);
    }

    static void feed(SmokeRings s, String bytes) {
        for (int i = 0; i < bytes.length(); i += 8) {
            int n = Math.min(8, bytes.length() - i);
            long word = 0;
            for (int k = n - 1; k >= 0; k--) {
                word = word << 8 | bytes.charAt(i + k);
            }
            s.feed(word, n);
        }
    }

    static int text(SmokeRings s, int use, String text) {
        feed(s, text);
        return s.text(use);
    }

    static SmokeRings withTexts(String ofStrokes, String ofLosses) {
        SmokeRings s = new SmokeRings();
        text(s, 0, ofStrokes);
        text(s, 1, ofLosses);
        return s;
    }

    /** A room in which no TURNING is lost. */
    static SmokeRings lossless() {
        SmokeRings s = new SmokeRings();
        text(s, 1, "0");
        return s;
    }

    static void numbers(SmokeRings s, int sheet, int bits, int... numbers) {
        s.sheet(sheet, bits, numbers.length);
        for (int i = 0; i < numbers.length; i++) {
            s.put(sheet, i, numbers[i]);
        }
    }

    /** Lets TICKS go by till NOW is so. */
    static void goTo(SmokeRings s, int now) {
        for (int left = now - s.count(0); left > 0; left -= 100) {
            s.ticks(Math.min(100, left));
        }
    }

    static SmokeRings withRings(int n) {
        SmokeRings s = new SmokeRings();
        for (int i = 0; i < n; i++) {
            plain(s, 30 * i, 1, 2 + i);
        }
        return s;
    }

    /** Some of everything, none of it as at first, and an IMAGE that is unlike what is now. */
    static SmokeRings rich() {
        SmokeRings s = new SmokeRings();
        s.ring(xy(-5, 1), -1, 7, 1001);
        s.law(3, 8);
        s.hole(7);
        s.wall(321);
        s.seed(-9);
        text(s, 0, "l%4");
        text(s, 1, "k");
        feed(s, "q-");
        s.tell(0);
        s.image();
        s.ring(xy(40, -2), 1, 9, 2004);
        s.ring(xy(-60, 3), 1, 11, 3005);
        s.ring(xy(900, 3), 1, 11, 3005);
        s.law(2, 5);
        s.law(6, 50);
        s.turn(1, 0);
        feed(s, "1");
        text(s, 0, "l");
        text(s, 1, "w=0");
        s.ticks(2);
        s.breeze(1);
        s.end(3);
        s.hole(22);
        s.wall(-700);
        text(s, 0, "q+l");
        s.voice(2, 3, 5);
        numbers(s, 0, 8, 1, 2, 4);
        numbers(s, 1, 16, 8, 16);
        numbers(s, 2, 32, 32, 64, 128, 256);
        feed(s, "7*l+");
        s.check(0);
        s.tell(1);
        s.tell(0);
        s.tell(2);
        s.wall(LEAST);
        s.as(0, 1);
        return s;
    }

    /** As much of everything as there can be. */
    static SmokeRings full() {
        SmokeRings s = new SmokeRings();
        s.image();
        goTo(s, 9999);
        text(s, 0, "q");
        text(s, 1, "0");
        for (int i = 0; i < 8; i++) {
            plain(s, 300 - 20 * i, i % 2 == 0 ? 1 : -1, 1);
        }
        for (int i = 0; i < 6; i++) {
            s.law(i, i + 1);
        }
        s.turn(5, 0);
        s.end(7);
        feed(s, "1+1+1+1+1+1+1+1+1+1+1+1+1+1+1+1+1+1+1+1+1+1+1+1+1*");
        for (int i = 0; i < 20; i++) {
            s.tell(i < 7 ? i : MOST);
        }
        for (int i = 0; i < 4; i++) {
            s.sheet(i, i < 2 ? 8 : 16 * (i - 1), 40);
            s.put(i, 39, 1 << i);
        }
        s.voice(4, 3, 1);
        return s;
    }
}
