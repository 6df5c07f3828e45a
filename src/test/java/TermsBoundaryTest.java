import java.lang.reflect.Method;
import java.lang.reflect.Modifier;
import java.util.Arrays;
import java.util.Comparator;

/** The boundary cases that "Terms" names for all acts: ERRORS and their order, what they change, quotients, 512 calls. */
public final class TermsBoundaryTest extends Boundary {
    private static final int[] EXTREMES = {LEAST, -1, 0, 1, 2, 3, 4, 8, 20, 61, 100, MOST};
    private static final int TRIES = 250;

    public static void main(String[] args) throws Exception {
        TermsBoundaryTest test = new TermsBoundaryTest();
        test.errors();
        test.ordersOfErrors();
        test.errorsChangeNothing();
        test.quotients();
        test.manyCalls();
        test.finish();
    }

    private void errors() {
        says("ERRORS are answers below -1000000000: LOW is -1000000000; LOW - 1 BEYOND .. LOW - 5 KIND");
        SmokeRings s = withRings(8);
        s.law(0, 0);
        due("BEYOND", s.wall(100000), -1000000001);
        due("NONE", s.restore(), -1000000002);
        due("STATE", s.sheet(0, 8, -1), -1000000003);
        due("FULL", s.stroke(1, 1), -1000000004);
        due("KIND", s.as(0, 1), -1000000005);
    }

    private void ordersOfErrors() {
        says("Each act tells its ERRORS in the order in which they are asked");
        SmokeRings s = full();
        due("ring: BEYOND, FULL", s.ring(0, 1, 1, 101), BEYOND);
        due("law: BEYOND, FULL", s.law(7, 1), BEYOND);
        due("as: BEYOND, KIND", s.as(6, 1), BEYOND);
        due("stroke: BEYOND, FULL", s.stroke(0, 1), BEYOND);
        due("feed: BEYOND, FULL", s.feed(0, 0), BEYOND);
        due("ticks: BEYOND, STATE", s.ticks(0), BEYOND);
        due("breeze: BEYOND, STATE", s.breeze(0), BEYOND);
        due("far: BEYOND, NONE", s.far(61, 7), BEYOND);
        due("knock: BEYOND, NONE", s.knock(61, 7, 0), BEYOND);
        due("second: BEYOND, FULL", s.second(61, 0, 1), BEYOND);
        due("second: FULL, NONE", s.second(0, 0, 1), FULL);
        SmokeRings none = new SmokeRings();
        due("alike: BEYOND, NONE", none.alike(61, 0), BEYOND);
        due("off: BEYOND, NONE", none.off(4), BEYOND);
        due("spun: BEYOND, NONE", none.spun(4), BEYOND);
        due("made: BEYOND, NONE", none.made(4), BEYOND);
        due("film: BEYOND, NONE", none.film(4), BEYOND);
        due("sheet: BEYOND, STATE", none.sheet(4, 8, -1), BEYOND);
        due("sheet: BEYOND, STATE", none.sheet(0, 7, -1), BEYOND);
        due("put: BEYOND, NONE", none.put(4, -1, 0), BEYOND);
        due("put: NONE, BEYOND", none.put(0, -1, 0), NONE);
        none.sheet(0, 8, 1);
        none.sheet(1, 16, 1);
        due("move: BEYOND, NONE", none.move(4, 0, 2, 0, 0), BEYOND);
        due("move: BEYOND, NONE", none.move(2, 0, 4, 0, 0), BEYOND);
        due("move: NONE, KIND, BEYOND", none.move(0, -1, 2, 0, -1), NONE);
        due("move: NONE, KIND, BEYOND", none.move(2, -1, 0, 0, -1), NONE);
        due("move: KIND, BEYOND", none.move(0, -1, 1, 0, -1), KIND);
    }

    private void manyCalls() {
        says("An object is used for at most 512 calls");
        SmokeRings s = new SmokeRings();
        for (int i = 1; i <= 512; i++) {
            due("image", s.image(), i);
        }
        SmokeRings wrong = new SmokeRings();
        for (int i = 1; i <= 511; i++) {
            wrong.front();
        }
        due("told behind 511", wrong.told(2), 511);
        SmokeRings told = new SmokeRings();
        for (int i = 1; i <= 511; i++) {
            due("told(0)", told.told(0), BEYOND);
        }
        due("told behind 511", told.told(1), 511);
        SmokeRings fed = new SmokeRings();
        for (int i = 0; i < 250; i++) {
            fed.feed('7', 1);
            due("a TEXT in place of one ahead", fed.text(i % 2), 1);
        }
        SmokeRings restored = rich();
        for (int i = 0; i < 100; i++) {
            restored.image();
            restored.restore();
        }
        due("NOW", restored.count(0), 3);
        due("how often", restored.image(), 102);
    }

    private void errorsChangeNothing() throws Exception {
        says("one that answers an ERROR changes nothing but what told() tells");
        Method[] acts = SmokeRings.class.getDeclaredMethods();
        Arrays.sort(acts, Comparator.comparing(Method::getName));
        Maker[] makers = {SmokeRings::new, Boundary::rich, Boundary::full};
        for (Method act : acts) {
            if (Modifier.isPublic(act.getModifiers())) {
                for (Maker maker : makers) {
                    tryExtremes(act, maker);
                }
            }
        }
    }

    /** Many of the calls whose arguments are at, near or far beyond bounds; all of them where there are few. */
    private void tryExtremes(Method act, Maker maker) throws Exception {
        int all = 1;
        for (int i = 0; i < act.getParameterCount(); i++) {
            all *= EXTREMES.length;
        }
        Seen before = new Seen(maker.make());
        for (int i = 0; i < Math.min(all, TRIES); i++) {
            int which = (int) (i * 7919L % all);
            Object[] arguments = new Object[act.getParameterCount()];
            for (int k = 0; k < arguments.length; k++) {
                int v = EXTREMES[which % EXTREMES.length];
                arguments[k] = act.getParameterTypes()[k] == long.class ? (Object) (long) v : (Object) v;
                which /= EXTREMES.length;
            }
            tryOne(act, arguments, maker.make(), before);
        }
    }

    private void tryOne(Method act, Object[] arguments, SmokeRings s, Seen before) throws Exception {
        String call = act.getName() + Arrays.toString(arguments);
        int[] told = told(s);
        int answer = (Integer) act.invoke(s, arguments);
        int[] toldNow = told(s);
        int errors = 0;
        for (int k = 0; k < 5; k++) {
            errors += toldNow[k] - told[k];
        }
        boolean anyNumber = act.getName().equals("seed") || act.getName().equals("voice") || act.getName().equals("count");
        if (!anyNumber || errors > 0) {
            due(call + ": ERRORS told", errors, answer < -1000000000 ? 1 : 0);
        }
        if (errors > 0 && !act.getName().equals("check")) {
            due(call + ": the ERROR told", toldNow[-1000000001 - answer], told[-1000000001 - answer] + 1);
            same(call + " was refused", new Seen(s).withoutErrors(), before.withoutErrors());
        }
    }

    private static int[] told(SmokeRings s) {
        int[] told = new int[5];
        for (int k = 1; k <= 5; k++) {
            told[k - 1] = s.told(k);
        }
        return told;
    }

    private void quotients() {
        says("Quotients are cut toward 0.");
        SmokeRings s = lossless();
        s.law(0, 1);
        s.law(6, 1);
        s.wall(-5);
        plain(s, 0, -1, 19);
        s.ring(xy(0, 0), -1, 29, 5004);
        due("PACE: 19 * 6 / 20", s.ofRing(0, 7), 5);
        due("WIDENS: 29 / 10", s.does(0, 0, 1, 0), 2);
        due("WIDENS: 19 / 10, turned", s.does(0, 1, 0, 0), -1);
        due("SPREADS: half of 29 / 15", s.does(1, 1, 0, 2), 0);
        due("KNOCK: 1900 / 20", s.knock(0, 0, 0), 95);
        due("KNOCK: 2900 / 50", s.knock(0, 1, 0), 58);
        s.ticks(1);
        due("X: PACE is cut, then turned", s.ofRing(0, 0), -5);
        due("WIDE: 50, less 1", s.ofRing(1, 4), 49);
        SmokeRings texts = withTexts("(l/q+9)*100+(0-l)/q+9", "t/50+w/100");
        due("-7 / 2 is -3", texts.gives(0, -7, 2, 0), 600 + 3 + 9);
        due("LOSS: -99 / 50 and 150 / 100", texts.gives(1, -99, 150, 0), 0);
        due("LOSS: -49 / 50 and 150 / 100", texts.gives(1, -49, 150, 0), 1);
        SmokeRings stroke = new SmokeRings();
        stroke.hole(9);
        stroke.stroke(3, 1);
        due("TURNING: 3 / 4", stroke.ofRing(0, 3), 0);
        due("THICK: 1 and 9 / 5", stroke.ofRing(0, 5), 2);
    }
}
