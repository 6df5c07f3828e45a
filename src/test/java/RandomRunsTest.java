import java.lang.reflect.InvocationTargetException;
import java.lang.reflect.Method;
import java.util.ArrayList;
import java.util.Arrays;
import java.util.HashMap;
import java.util.List;
import java.util.Map;
import java.util.Random;

/**
 * Random runs of calls, each answer compared with that of a second model, which is written as
 * plainly as the document reads and shares nothing with the class.
 */
public final class RandomRunsTest {
    private static final int RUNS = 1500;
    private static final int CALLS = 300;

    public static void main(String[] args) throws Exception {
        Map<String, Method> ours = methods(SmokeRings.class);
        Map<String, Method> plain = methods(Plain.class);
        if (!ours.keySet().equals(plain.keySet())) {
            System.out.println("the faces differ: " + ours.keySet() + " " + plain.keySet());
            System.exit(1);
        }
        int wrong = 0;
        int runs = args.length > 0 ? Integer.parseInt(args[0]) : RUNS;
        Map<String, Integer> answered = new HashMap<>();
        for (int run = 0; run < runs && wrong < 5; run++) {
            wrong += runOnce(run, ours, plain, answered);
        }
        for (String name : ours.keySet()) {
            if (answered.getOrDefault(name, 0) < runs / 30) {
                System.out.println(name + " was hardly ever answered without an ERROR");
                wrong++;
            }
        }
        System.out.println(wrong == 0 ? "all answers are as due" : wrong + " runs are not as due");
        if (wrong != 0) {
            System.exit(1);
        }
    }

    private static Map<String, Method> methods(Class<?> of) {
        Map<String, Method> found = new HashMap<>();
        for (Method method : of.getDeclaredMethods()) {
            if (java.lang.reflect.Modifier.isPublic(method.getModifiers())) {
                found.put(method.getName(), method);
            }
        }
        return found;
    }

    private static int runOnce(int run, Map<String, Method> ours, Map<String, Method> plain,
            Map<String, Integer> answered) throws Exception {
        Calls calls = new Calls(new Random(run));
        SmokeRings rings = new SmokeRings();
        Plain model = new Plain();
        List<String> said = new ArrayList<>();
        for (int i = 0; i < CALLS; i++) {
            Object[] call = calls.next(model);
            String name = (String) call[0];
            Object[] arguments = Arrays.copyOfRange(call, 1, call.length);
            Object due = plain.get(name).invoke(model, arguments);
            Object got;
            try {
                got = ours.get(name).invoke(rings, arguments);
            } catch (InvocationTargetException thrown) {
                got = thrown.getCause();
            }
            said.add(name + Arrays.toString(arguments) + " = " + due);
            if (!due.equals(got)) {
                for (String line : said) {
                    System.out.println("  " + line);
                }
                System.out.println("run " + run + ", call " + i + ": answered " + got + ", due is " + due);
                return 1;
            }
            if ((Integer) due > -1000000000) {
                answered.merge(name, 1, Integer::sum);
            }
        }
        return 0;
    }

    /** Makes calls that lead somewhere more often than not. */
    private static final class Calls {
        private static final String[] NAMES = {"ring", "ring", "ring", "ofRing", "ofRing", "ofRing", "ofRing", "end",
            "wall", "law", "law", "ofLaw", "as", "turn", "does", "does", "does", "pair", "pair", "hole", "stroke",
            "stroke", "trails", "feed", "feed", "feed", "feed", "text", "gives", "gives", "ticks", "breeze", "front",
            "then", "then", "whole", "turns", "far", "knock", "farthest", "second", "alike", "off", "off", "spun",
            "made", "heart", "seed", "voice", "voice", "trace", "trace", "sheet", "put", "move", "film", "film",
            "image", "restore", "tell", "tell", "tell", "check", "count", "count", "told"};
        private static final String[] TEXTS = {"q*l/9", "t/9", "l*q", "t%7+k", "!(w<50)*3", "0", "1", "t", "(t>100)*9",
            "q*h/(l-5)", "5", "w/20", "9999*9999*9999", "!!!!!t", "!!!!!!t", "(((((1)))))", "((((((1))))))", "l<h<q",
            "l<h|q>h&l=3", "12345", "1234", "l(", ")", "1)", "q q", "k-t-w", "100/3/2", "7-3*2%5", "!(t&0)|w", ""};
        private final Random random;
        private final List<Object[]> queue = new ArrayList<>();
        /** In some runs the RINGS stand close together and time goes slowly, so that more happens among them. */
        private final boolean close;
        private final boolean slow;

        Calls(Random random) {
            this.random = random;
            this.close = random.nextInt(4) != 0;
            this.slow = random.nextInt(4) != 0;
        }

        Object[] next(Plain model) {
            if (!queue.isEmpty()) {
                return queue.remove(0);
            }
            if (random.nextInt(25) == 0) {
                queueText();
                return queue.remove(0);
            }
            if (random.nextInt(40) == 0) {
                queueOrder(model);
                return queue.remove(0);
            }
            return call(NAMES[random.nextInt(NAMES.length)]);
        }

        /** A whole TEXT, fed in pieces, sometimes with a sign changed. */
        private void queueText() {
            StringBuilder text = new StringBuilder(
                random.nextInt(3) == 0 ? TEXTS[random.nextInt(TEXTS.length)] : grown(random.nextInt(2) == 0 ? "lqh" : "twk", 4));
            if (random.nextInt(3) == 0 && text.length() > 0) {
                String signs = "()!|&<=>+-*/%0123456789lqhtwk x\u00ff";
                text.setCharAt(random.nextInt(text.length()), signs.charAt(random.nextInt(signs.length())));
            }
            if (text.length() > 50) {
                text.setLength(50);
            }
            queue.add(new Object[] {"text", random.nextInt(2)});
            for (int i = 0; i < text.length(); ) {
                int n = Math.min(text.length() - i, 1 + random.nextInt(8));
                long word = n == 8 ? 0 : random.nextLong() << 8 * n;
                for (int k = 0; k < n; k++) {
                    word |= (long) text.charAt(i + k) << 8 * k;
                }
                queue.add(new Object[] {"feed", word, n});
                i += n;
            }
            queue.add(new Object[] {"text", random.nextInt(2)});
            for (int use = 0; use < 2; use++) {
                queue.add(new Object[] {"gives", use, number(), number(), number()});
                queue.add(new Object[] {"gives", use, random.nextInt(100), random.nextInt(100), random.nextInt(100)});
            }
        }

        private String grown(String names, int depth) {
            switch (random.nextInt(depth <= 0 ? 2 : 9)) {
                case 0: return String.valueOf(random.nextInt(random.nextInt(2) == 0 ? 10 : 10000));
                case 1: return names.substring(random.nextInt(3)).substring(0, 1);
                case 2: return "!" + grown(names, depth - 1);
                case 3: return "(" + grown(names, depth - 1) + ")";
                default:
                    return grown(names, depth - 1) + "|&<=>+-*/%+-*/%".charAt(random.nextInt(15)) + grown(names, depth - 2);
            }
        }

        /** The right order of the RINGS, or one that is nearly right. */
        private void queueOrder(Plain model) {
            queue.add(new Object[] {"check", -1});
            int n = random.nextInt(10);
            List<Integer> order = new ArrayList<>(model.order(n));
            int change = random.nextInt(4);
            if (change == 0 && !order.isEmpty()) {
                order.remove(random.nextInt(order.size()));
            } else if (change == 1) {
                order.add(random.nextInt(order.size() + 1), random.nextInt(9) - 1);
            }
            for (int number : order) {
                queue.add(new Object[] {"tell", number});
            }
            queue.add(new Object[] {"check", n});
        }

        private Object[] call(String name) {
            switch (name) {
                case "ring": return new Object[] {name, xy(), oneOf(1, 1, 1, 1, -1, -1, 0, number()),
                    within(0, 999, 300), wk()};
                case "ofRing": return new Object[] {name, small(8), within(0, 7, 7)};
                case "end": return new Object[] {name, random.nextInt(3) == 0 ? small(8) : 8 + random.nextInt(3)};
                case "wall": return new Object[] {name, within(-99999, 99999, 200)};
                case "law": return new Object[] {name, within(0, 6, 6), within(0, 99, random.nextInt(2) == 0 ? 9 : 99)};
                case "ofLaw": return new Object[] {name, small(6), within(0, 2, 2)};
                case "as": return new Object[] {name, small(6), within(0, 6, 6)};
                case "turn": return new Object[] {name, small(6), oneOf(0, 1, 1, 1, 1, 2)};
                case "does": return new Object[] {name, small(6), small(8), small(8), within(0, 3, 3)};
                case "pair": return new Object[] {name, small(8), small(8), within(0, 2, 2)};
                case "hole": return new Object[] {name, within(1, 50, 50)};
                case "stroke": return new Object[] {name, within(1, 400, 90), within(1, 99, 99)};
                case "trails": return new Object[] {name, within(1, 400, 100)};
                case "feed": return new Object[] {name, random.nextLong(), within(1, 8, 8)};
                case "text": return new Object[] {name, small(2)};
                case "gives": return new Object[] {name, small(2), number(), number(), number()};
                case "ticks": case "breeze":
                    return new Object[] {name, slow ? within(1, 100, 3) : within(1, 100, 100)};
                case "then": return new Object[] {name, ahead(), small(8), within(0, 7, 7)};
                case "whole": case "turns": case "check": return new Object[] {name, ahead()};
                case "far": return new Object[] {name, ahead(), small(8)};
                case "knock": return new Object[] {name, ahead(), small(8), within(-99999, 99999, 300)};
                case "farthest": return new Object[] {name, within(0, 60, 10), within(1, 40, 8), within(1, 20, 8)};
                case "second": return new Object[] {name, ahead(), within(0, 20, 20), within(1, 400, 80)};
                case "alike": return new Object[] {name, ahead(), within(0, 999, 300)};
                case "off": case "spun": case "made": case "film": return new Object[] {name, small(4)};
                case "heart": return new Object[] {name, within(1, 9999, 600)};
                case "seed": return new Object[] {name, number()};
                case "voice": return new Object[] {name, small(6), within(0, 3, 3), number()};
                case "trace": return new Object[] {name, within(0, 12, 12)};
                case "sheet": return new Object[] {name, small(4), oneOf(0, 8, 16, 32, 8, 16, 32, 16, 32, 7, 64),
                    within(0, 40, 40)};
                case "put": return new Object[] {name, small(4), small(40), number()};
                case "move": return new Object[] {name, small(4), small(12), small(4), small(12), small(12)};
                case "tell": return new Object[] {name, random.nextInt(10) - 1};
                case "count": return new Object[] {name, within(0, 8, 8)};
                case "told": return new Object[] {name, within(1, 5, 5)};
                default: return new Object[] {name};
            }
        }

        private int ahead() {
            return within(0, 60, 30);
        }

        private int xy() {
            if (random.nextInt(30) == 0) {
                return number();
            }
            int x = close ? random.nextInt(121) - 60 : within(-99999, 99999, 3000);
            int y = close ? random.nextInt(41) - 20 : within(-999, 999, 300);
            return 2000 * (x + 100000) + y + 1000;
        }

        private int wk() {
            return random.nextInt(30) == 0 ? number() : 100 * within(1, 200, 60) + within(1, 50, 12);
        }

        /** Mostly from a few at the low end, sometimes the whole range, its edges, what lies beyond, anything. */
        private int within(int least, int most, int few) {
            switch (random.nextInt(24)) {
                case 0: return least;
                case 1: return most;
                case 2: return random.nextInt(3) == 0 ? least - 1 : least;
                case 3: return random.nextInt(3) == 0 ? most + 1 : most;
                case 4: return random.nextInt(3) == 0 ? number() : least;
                case 5: case 6: case 7: return least + random.nextInt(most - least + 1);
                default: return Math.min(most, Math.max(least, least < 0 ? random.nextInt(2 * few + 1) - few
                    : least + random.nextInt(few + 1)));
            }
        }

        private int small(int count) {
            return random.nextInt(30) == 0 ? oneOf(-1, count, number(), Integer.MIN_VALUE, Integer.MAX_VALUE)
                : random.nextInt(2) == 0 ? random.nextInt(Math.min(3, count)) : random.nextInt(count);
        }

        private int number() {
            switch (random.nextInt(6)) {
                case 0: return random.nextInt();
                case 1: return oneOf(Integer.MIN_VALUE, Integer.MAX_VALUE, 0, -1, 1, 255, 128, -128, 32768, -32769);
                case 2: return random.nextInt(200001) - 100000;
                default: return random.nextInt(401) - 200;
            }
        }

        private int oneOf(int... choices) {
            return choices[random.nextInt(choices.length)];
        }
    }

    /** The second model. */
    static final class Plain {
        private static final int LOW = -1000000000;
        private static final int[] ABOVE = {-1, 0, 0, 0, 3, 0, 5};
        /** The BODY of each KIND for goes, moves, ends, tells; 0: it has none. */
        private static final int[][] BODIES = {{10, 11, 12, 13}, {0, 20, 0, 0}, {30, 0, 0, 0}, {0, 0, 40, 0},
            {50, 0, 0, 51}, {0, 60, 0, 0}, {0, 0, 70, 71}};

        static final class Fault extends Exception {
            private static final long serialVersionUID = 1L;
        }

        static final class R {
            int x, y, way, turning, wide, thick;
            boolean whole = true;

            R(int x, int y, int way, int turning, int wide, int thick) {
                this.x = x;
                this.y = y;
                this.way = way;
                this.turning = turning;
                this.wide = wide;
                this.thick = thick;
            }

            R copy() {
                R r = new R(x, y, way, turning, wide, thick);
                r.whole = whole;
                return r;
            }

            int[] traits() {
                int halvings = 0;
                int w = wide;
                while (w > thick) {
                    w = w >> 1;
                    halvings++;
                }
                return new int[] {x, y, way, turning, wide, thick, whole ? 1 : 0, turning * (3 + halvings) / wide};
            }
        }

        static final class L {
            final int kind;
            final int m;
            boolean on = true;

            L(int kind, int m) {
                this.kind = kind;
                this.m = m;
            }
        }

        /** What an IMAGE holds. */
        static final class World {
            int now = 0;
            int wall = 99999;
            int hole = 10;
            int z = 1;
            List<R> rings = new ArrayList<>();
            List<L> laws = new ArrayList<>();
            String[] texts = {"q*(l<h*4)*l/4+q*!(l<h*4)*h", "t/50+w/100"};
            String tape = "";
            List<Integer> waiting = new ArrayList<>();

            World copy() {
                World w = new World();
                w.now = now;
                w.wall = wall;
                w.hole = hole;
                w.z = z;
                for (R r : rings) {
                    w.rings.add(r.copy());
                }
                for (L l : laws) {
                    L copy = new L(l.kind, l.m);
                    copy.on = l.on;
                    w.laws.add(copy);
                }
                w.texts = texts.clone();
                w.tape = tape;
                w.waiting = new ArrayList<>(waiting);
                return w;
            }

            int gap(int a, int b) {
                return Math.abs(rings.get(a).x - rings.get(b).x);
            }

            boolean near(int a, int b) {
                R r = rings.get(a);
                R o = rings.get(b);
                return Math.abs(r.y - o.y) < r.wide + o.wide;
            }

            boolean behind(int a, int b) {
                R r = rings.get(a);
                R o = rings.get(b);
                if (r.way != o.way) {
                    return false;
                }
                if (r.x == o.x) {
                    return a > b;
                }
                return r.way == 1 ? r.x < o.x : r.x > o.x;
            }

            int widens(L law, int a, int b) {
                boolean same = rings.get(a).way == rings.get(b).way;
                int pull = law.m * rings.get(b).turning / (gap(a, b) + 10);
                if (law.kind >= 5 || !near(a, b)) {
                    return 0;
                }
                if (law.kind == 3 || law.kind == 4) {
                    return same ? 0 : pull;
                }
                if (!same) {
                    return 0;
                }
                if (law.kind == 1 && gap(a, b) < rings.get(a).thick + rings.get(b).thick) {
                    pull = pull * 2;
                }
                return behind(a, b) ? -pull : pull;
            }

            int spreads(L law, int a) {
                int distance = Math.abs(wall - rings.get(a).x);
                if (law.kind < 5 || distance >= 100) {
                    return 0;
                }
                int spread = law.m * rings.get(a).turning / (distance + 10);
                return law.kind == 6 ? spread / 2 : spread;
            }

            int lifts(L law, int a) {
                return law.kind == 6 ? spreads(law, a) : 0;
            }

            boolean ends(L law, int a, int b) {
                if (law.kind == 2) {
                    return near(a, b) && gap(a, b) <= law.m && behind(a, b);
                }
                return law.kind == 4 && rings.get(a).wide >= 150 && near(a, b);
            }

            int gives(int use, int a, int b, int c) {
                try {
                    return hold(new Reading(texts[use], use == 0 ? "lqh" : "twk", a, b, c).all(), 0, 999);
                } catch (Fault fault) {
                    throw new IllegalStateException(fault);
                }
            }

            void tick() {
                World was = copy();
                int count = rings.size();
                for (int i = 0; i < count; i++) {
                    R r = rings.get(i);
                    R w = was.rings.get(i);
                    if (!w.whole) {
                        continue;
                    }
                    int wider = 0;
                    int up = 0;
                    for (L law : laws) {
                        if (!law.on) {
                            continue;
                        }
                        wider += was.spreads(law, i);
                        up += was.lifts(law, i);
                        for (int k = 0; k < count; k++) {
                            if (k != i && was.rings.get(k).whole) {
                                wider += was.widens(law, i, k);
                            }
                        }
                    }
                    r.x = hold(w.x + w.traits()[7] * w.way, -99999, 99999);
                    r.y = hold(w.y + up, -999, 999);
                    r.wide = hold(w.wide + wider, 1, 200);
                    r.turning = hold(w.turning - gives(1, w.turning, w.wide, w.thick), 0, 999);
                }
                for (int i = 0; i < count; i++) {
                    if (was.rings.get(i).whole) {
                        endOne(was, i);
                    }
                }
                for (R r : rings) {
                    if (r.whole && r.turning == 0) {
                        r.whole = false;
                    }
                }
                for (R r : rings) {
                    if (r.whole && r.way == 1 && r.x > wall) {
                        r.x = wall;
                    }
                }
                now++;
            }

            private void endOne(World was, int i) {
                for (int k = 0; k < rings.size(); k++) {
                    if (k == i || !was.rings.get(k).whole) {
                        continue;
                    }
                    for (L law : laws) {
                        if (law.on && was.ends(law, i, k)) {
                            rings.get(i).whole = false;
                            if (law.kind == 2 && rings.get(k).whole) {
                                rings.get(k).turning = hold(rings.get(k).turning + rings.get(i).turning, 0, 999);
                            }
                            return;
                        }
                    }
                }
            }

            World ahead(int n) {
                World w = copy();
                for (int i = 0; i < n; i++) {
                    w.tick();
                }
                return w;
            }

            List<Integer> order() {
                List<Integer> order = new ArrayList<>();
                for (int i = 0; i < rings.size(); i++) {
                    if (rings.get(i).whole) {
                        order.add(i);
                    }
                }
                order.sort((a, b) -> rings.get(a).x != rings.get(b).x
                    ? Integer.compare(rings.get(b).x, rings.get(a).x) : Integer.compare(a, b));
                return order;
            }

            int turns(int n) {
                int turns = 0;
                World w = copy();
                for (int i = 1; i <= n; i++) {
                    List<Integer> then = w.order();
                    w.tick();
                    List<Integer> next = w.order();
                    if (!then.isEmpty() && !next.isEmpty() && !then.get(0).equals(next.get(0))) {
                        turns++;
                    }
                }
                return turns;
            }

            int far(int n, int ring) {
                int far = Integer.MIN_VALUE;
                World w = copy();
                for (int i = 0; i <= n; i++) {
                    if (w.rings.get(ring).whole) {
                        far = Math.max(far, w.rings.get(ring).x);
                    }
                    w.tick();
                }
                return far;
            }

            int stroke(int l, int q) {
                rings.add(new R(0, 0, 1, gives(0, l, q, hole), hole, 1 + hole / 5));
                return rings.size() - 1;
            }

            long off(long[] film) {
                long off = 0;
                World w = copy();
                for (long number : film) {
                    w.tick();
                    if (w.rings.get(0).whole) {
                        off += Math.min(1000000, Math.abs(number - w.rings.get(0).x));
                    }
                }
                return off;
            }
        }

        /** Reads a TEXT by descent and works it out at once. */
        static final class Reading {
            private final String text;
            private final String names;
            private final int[] values;
            private int at = 0;
            private int open = 0;

            Reading(String text, String names, int... values) {
                this.text = text;
                this.names = names;
                this.values = values;
            }

            int all() throws Fault {
                int v = t();
                if (at < text.length()) {
                    throw new Fault();
                }
                return v;
            }

            private boolean sees(String signs) {
                return at < text.length() && signs.indexOf(text.charAt(at)) >= 0;
            }

            private int t() throws Fault {
                int v = a();
                while (sees("|")) {
                    at++;
                    int w = a();
                    v = v != 0 | w != 0 ? 1 : 0;
                }
                return v;
            }

            private int a() throws Fault {
                int v = b();
                while (sees("&")) {
                    at++;
                    int w = b();
                    v = v != 0 & w != 0 ? 1 : 0;
                }
                return v;
            }

            private int b() throws Fault {
                int v = s();
                if (sees("<=>")) {
                    char sign = text.charAt(at++);
                    int w = s();
                    int order = Integer.compare(v, w);
                    return order == sign - '=' ? 1 : 0;
                }
                return v;
            }

            private int s() throws Fault {
                int v = p();
                while (sees("+-")) {
                    int sign = ',' - text.charAt(at++);
                    v += sign * p();
                }
                return v;
            }

            private int p() throws Fault {
                int v = q();
                while (sees("*/%")) {
                    char sign = text.charAt(at++);
                    int w = q();
                    if (sign == '*') {
                        v = (int) ((long) v * w);
                    } else if (w == 0) {
                        v = 0;
                    } else {
                        v = (int) (sign == '/' ? (long) v / w : (long) v % w);
                    }
                }
                return v;
            }

            private int q() throws Fault {
                if (sees("0123456789")) {
                    int from = at;
                    while (at < from + 4 && sees("0123456789")) {
                        at++;
                    }
                    return Integer.parseInt(text.substring(from, at));
                }
                if (sees(names)) {
                    return values[names.indexOf(text.charAt(at++))];
                }
                if (!sees("!(") || open == 5) {
                    throw new Fault();
                }
                boolean not = text.charAt(at++) == '!';
                open++;
                int v = not ? q() == 0 ? 1 : 0 : t();
                if (!not) {
                    if (!sees(")")) {
                        throw new Fault();
                    }
                    at++;
                }
                open--;
                return v;
            }
        }

        private World world = new World();
        private World image = null;
        private int images = 0;
        private final int[] bits = new int[4];
        private final long[][] sheets = new long[4][0];
        private final List<Integer> trace = new ArrayList<>();
        private final int[] told = new int[6];

        static int hold(int v, int least, int most) {
            return Math.max(least, Math.min(most, v));
        }

        private static boolean in(long v, long least, long most) {
            return least <= v && v <= most;
        }

        private int error(int k) {
            told[k]++;
            return LOW - k;
        }

        private boolean isRing(int ring) {
            return in(ring, 0, world.rings.size() - 1);
        }

        private boolean isLaw(int law) {
            return in(law, 0, world.laws.size() - 1);
        }

        List<Integer> order(int n) {
            return world.ahead(n).order();
        }

        public int ring(int xy, int way, int turning, int wk) {
            int x = Math.floorDiv(xy, 2000) - 100000;
            int y = Math.floorMod(xy, 2000) - 1000;
            int wide = Math.floorDiv(wk, 100);
            int thick = Math.floorMod(wk, 100);
            if (!in(x, -99999, 99999) || !in(y, -999, 999) || Math.abs((long) way) != 1 || !in(turning, 0, 999)
                || !in(wide, 1, 200) || !in(thick, 1, 50)) {
                return error(1);
            }
            if (world.rings.size() == 8) {
                return error(4);
            }
            world.rings.add(new R(x, y, way, turning, wide, thick));
            return world.rings.size() - 1;
        }

        public int ofRing(int ring, int what) {
            return isRing(ring) && in(what, 0, 7) ? world.rings.get(ring).traits()[what] : error(1);
        }

        public int end(int ring) {
            if (!isRing(ring)) {
                return error(1);
            }
            boolean was = world.rings.get(ring).whole;
            world.rings.get(ring).whole = false;
            return was ? 1 : 0;
        }

        public int wall(int x) {
            if (!in(x, -99999, 99999)) {
                return error(1);
            }
            int was = world.wall;
            world.wall = x;
            return was;
        }

        public int law(int kind, int m) {
            if (!in(kind, 0, 6) || !in(m, 0, 99)) {
                return error(1);
            }
            if (world.laws.size() == 6) {
                return error(4);
            }
            world.laws.add(new L(kind, m));
            return world.laws.size() - 1;
        }

        public int ofLaw(int law, int what) {
            if (!isLaw(law) || !in(what, 0, 2)) {
                return error(1);
            }
            L l = world.laws.get(law);
            return new int[] {l.kind, l.m, l.on ? 1 : 0}[what];
        }

        public int as(int law, int kind) {
            if (!isLaw(law) || !in(kind, 0, 6)) {
                return error(1);
            }
            for (int k = world.laws.get(law).kind; k >= 0; k = ABOVE[k]) {
                if (k == kind) {
                    return world.laws.get(law).m;
                }
            }
            return error(5);
        }

        public int turn(int law, int on) {
            if (!isLaw(law) || !in(on, 0, 1)) {
                return error(1);
            }
            boolean was = world.laws.get(law).on;
            world.laws.get(law).on = on == 1;
            return was ? 1 : 0;
        }

        public int does(int law, int ring, int other, int what) {
            if (!isLaw(law) || !isRing(ring) || !in(what, 0, 3) || what < 2 && (!isRing(other) || ring == other)) {
                return error(1);
            }
            L l = world.laws.get(law);
            switch (what) {
                case 0: return world.widens(l, ring, other);
                case 1: return world.ends(l, ring, other) ? 1 : 0;
                case 2: return world.spreads(l, ring);
                default: return world.lifts(l, ring);
            }
        }

        public int pair(int one, int other, int what) {
            if (!isRing(one) || !isRing(other) || one == other || !in(what, 0, 2)) {
                return error(1);
            }
            return what == 0 ? world.gap(one, other)
                : (what == 1 ? world.near(one, other) : world.behind(one, other)) ? 1 : 0;
        }

        public int hole(int v) {
            if (!in(v, 1, 50)) {
                return error(1);
            }
            int was = world.hole;
            world.hole = v;
            return was;
        }

        public int stroke(int l, int q) {
            if (!in(l, 1, 400) || !in(q, 1, 99)) {
                return error(1);
            }
            return world.rings.size() == 8 ? error(4) : world.stroke(l, q);
        }

        public int trails(int l) {
            return in(l, 1, 400) ? Math.max(0, l - 4 * world.hole) : error(1);
        }

        public int feed(long word, int n) {
            if (!in(n, 1, 8)) {
                return error(1);
            }
            if (world.tape.length() + n > 50) {
                return error(4);
            }
            for (int i = 0; i < n; i++) {
                world.tape += (char) (word >>> 8 * i & 255);
            }
            return world.tape.length();
        }

        public int text(int use) {
            if (!in(use, 0, 1)) {
                return error(1);
            }
            String tape = world.tape;
            world.tape = "";
            Reading reading = new Reading(tape, use == 0 ? "lqh" : "twk", 1, 1, 1);
            try {
                reading.all();
            } catch (Fault fault) {
                return -10 - reading.at;
            }
            world.texts[use] = tape;
            return 1;
        }

        public int gives(int use, int a, int b, int c) {
            return in(use, 0, 1) ? world.gives(use, a, b, c) : error(1);
        }

        private int pass(int n, boolean windy) {
            if (!in(n, 1, 100)) {
                return error(1);
            }
            if (world.now + n > 9999) {
                return error(3);
            }
            for (int i = 0; i < n; i++) {
                world.tick();
                for (R r : world.rings) {
                    if (windy && r.whole) {
                        world.z = world.z * 1103515245 + 12345;
                        r.y = hold(r.y + (world.z >>> 8) % 7 - 3, -999, 999);
                    }
                }
            }
            return world.now;
        }

        public int ticks(int n) {
            return pass(n, false);
        }

        public int breeze(int n) {
            return pass(n, true);
        }

        public int front() {
            return world.order().isEmpty() ? error(2) : world.order().get(0);
        }

        public int then(int n, int ring, int what) {
            return in(n, 0, 60) && isRing(ring) && in(what, 0, 7) ? world.ahead(n).rings.get(ring).traits()[what] : error(1);
        }

        public int whole(int n) {
            return in(n, 0, 60) ? world.ahead(n).order().size() : error(1);
        }

        public int turns(int n) {
            return in(n, 0, 60) ? world.turns(n) : error(1);
        }

        public int far(int n, int ring) {
            if (!in(n, 0, 60) || !isRing(ring)) {
                return error(1);
            }
            return world.rings.get(ring).whole ? world.far(n, ring) : error(2);
        }

        public int knock(int n, int ring, int x) {
            if (!in(n, 0, 60) || !isRing(ring) || !in(x, -99999, 99999)) {
                return error(1);
            }
            for (int i = 0; i <= n; i++) {
                R r = world.ahead(i).rings.get(ring);
                if (r.whole && r.x >= x) {
                    return r.turning * 100 / r.wide;
                }
            }
            return error(2);
        }

        public int farthest(int n, int a, int b) {
            if (!in(n, 0, 60) || !in(a, 1, 40) || !in(b, 1, 20)) {
                return error(1);
            }
            int best = Integer.MIN_VALUE;
            int answer = 0;
            for (int l = 1; l <= a; l++) {
                for (int q = 1; q <= b; q++) {
                    World w = world.copy();
                    w.rings.clear();
                    int far = w.far(n, w.stroke(l, q));
                    if (far > best) {
                        best = far;
                        answer = 100 * l + q;
                    }
                }
            }
            return answer;
        }

        public int second(int n, int d, int l) {
            if (!in(n, 0, 60) || !in(d, 0, 20) || !in(l, 1, 400)) {
                return error(1);
            }
            if (world.rings.size() == 8) {
                return error(4);
            }
            for (int q = 1; q <= 99; q++) {
                World w = world.ahead(d);
                w.stroke(l, q);
                if (w.turns(n) >= 2) {
                    return q;
                }
            }
            return error(2);
        }

        public int alike(int n, int v) {
            if (!in(n, 0, 60) || !in(v, 0, 999)) {
                return error(1);
            }
            int answer = -1;
            for (int k = 0; k <= 99 && k <= v; k++) {
                World w = world.copy();
                w.rings.clear();
                w.rings.add(new R(0, 0, 1, v, 20, 4));
                w.rings.add(new R(-20, 0, 1, v - k, 20, 4));
                if (w.turns(n) == 0) {
                    break;
                }
                answer = k;
            }
            return answer < 0 ? error(2) : answer;
        }

        private int filmError(int sheet) {
            return !in(sheet, 0, 3) ? 1 : bits[sheet] == 0 || world.rings.isEmpty() ? 2 : 0;
        }

        public int off(int sheet) {
            int error = filmError(sheet);
            return error != 0 ? error(error) : (int) world.off(sheets[sheet]);
        }

        public int spun(int sheet) {
            int error = filmError(sheet);
            if (error != 0) {
                return error(error);
            }
            long best = Long.MAX_VALUE;
            int answer = -1;
            for (int t = 0; t <= 111; t++) {
                World w = world.copy();
                w.rings.get(0).turning = 9 * t;
                long off = w.off(sheets[sheet]);
                if (off < best) {
                    best = off;
                    answer = 9 * t;
                }
            }
            return answer;
        }

        public int made(int sheet) {
            int error = filmError(sheet);
            if (error != 0) {
                return error(error);
            }
            long best = Long.MAX_VALUE;
            int answer = -1;
            for (int set = 0; set < 1 << world.laws.size(); set++) {
                World w = world.copy();
                for (int i = 0; i < w.laws.size(); i++) {
                    w.laws.get(i).on = (set & 1 << i) != 0;
                }
                long off = w.off(sheets[sheet]);
                if (off < best) {
                    best = off;
                    answer = set;
                }
            }
            return answer;
        }

        public int heart(int c) {
            if (!in(c, 1, 9999)) {
                return error(1);
            }
            int best = Integer.MIN_VALUE;
            int answer = 0;
            for (int l = 1; l <= 400; l++) {
                for (int q = 1; q <= 99; q++) {
                    if (l * q <= c) {
                        int gain = world.gives(0, l, q, world.hole) - Math.max(0, l - 4 * world.hole);
                        if (gain > best) {
                            best = gain;
                            answer = 100 * l + q;
                        }
                    }
                }
            }
            return answer;
        }

        public int seed(int v) {
            int was = world.z;
            world.z = v;
            return was;
        }

        public int voice(int law, int act, int x) {
            if (!isLaw(law) || !in(act, 0, 3)) {
                return error(1);
            }
            trace.clear();
            int kind = world.laws.get(law).kind;
            return speak(law, kind, kind, act, x);
        }

        /** The BODY of an act from a KIND on upward, for a LAW whose own KIND is that one. */
        private int speak(int n, int own, int from, int act, int x) {
            int at = from;
            while (BODIES[at][act] == 0) {
                at = ABOVE[at];
            }
            int body = BODIES[at][act];
            int m = world.laws.get(n).m;
            int up = ABOVE[at];
            if (trace.size() < 40) {
                trace.add(body);
            }
            int left;
            switch (body) {
                case 10: return x + n;
                case 11: return speak(n, own, own, 0, x) * 2;
                case 12: return x - m;
                case 13:
                    left = speak(n, own, own, 1, x);
                    return left ^ speak(n, own, own, 2, x);
                case 20:
                    left = speak(n, own, up, 1, x);
                    return left - speak(n, own, own, 2, 1);
                case 30: return speak(n, own, up, 0, x) * 3;
                case 40: return -speak(n, own, up, 2, x);
                case 50: return speak(n, own, up, 0, x + 1);
                case 51:
                    left = speak(n, own, up, 3, x);
                    return left - speak(n, own, own, 0, 2);
                case 60: return speak(n, own, up, 1, x) ^ n;
                case 70: return speak(n, own, up, 2, x) + m;
                default:
                    left = speak(n, own, own, 1, x);
                    return left - speak(n, own, up, 3, x);
            }
        }

        public int trace(int i) {
            return in(i, 0, trace.size() - 1) ? trace.get(i) : error(2);
        }

        public int sheet(int sheet, int b, int n) {
            if (!in(sheet, 0, 3) || b != 0 && b != 8 && b != 16 && b != 32) {
                return error(1);
            }
            if (b != 0 && n < 0) {
                return error(3);
            }
            if (b != 0 && n > 40) {
                return error(1);
            }
            bits[sheet] = b;
            sheets[sheet] = new long[b == 0 ? 0 : n];
            return 1;
        }

        private long cut(int sheet, long v) {
            int away = 64 - bits[sheet];
            return v << away >> away;
        }

        public int put(int sheet, int i, int v) {
            if (!in(sheet, 0, 3)) {
                return error(1);
            }
            if (bits[sheet] == 0) {
                return error(2);
            }
            if (!in(i, 0, sheets[sheet].length - 1)) {
                return error(1);
            }
            sheets[sheet][i] = cut(sheet, v);
            return 1;
        }

        public int move(int sheet, int i, int other, int j, int n) {
            if (!in(sheet, 0, 3) || !in(other, 0, 3)) {
                return error(1);
            }
            if (bits[sheet] == 0 || bits[other] == 0) {
                return error(2);
            }
            if (bits[sheet] != bits[other]) {
                return error(5);
            }
            if (n < 0 || i < 0 || j < 0 || (long) i + n > sheets[sheet].length || (long) j + n > sheets[other].length) {
                return error(1);
            }
            long[] from = sheets[sheet].clone();
            for (int k = 0; k < n; k++) {
                sheets[other][j + k] = from[i + k];
            }
            return n;
        }

        public int film(int sheet) {
            int error = filmError(sheet);
            if (error != 0) {
                return error(error);
            }
            for (int i = 0; i < sheets[sheet].length; i++) {
                R r = world.ahead(i + 1).rings.get(0);
                sheets[sheet][i] = cut(sheet, r.whole ? r.x : 0);
            }
            return sheets[sheet].length;
        }

        public int image() {
            image = world.copy();
            return ++images;
        }

        public int restore() {
            if (image == null) {
                return error(2);
            }
            world = image.copy();
            return world.now;
        }

        public int tell(int v) {
            if (world.waiting.size() == 20) {
                return error(4);
            }
            world.waiting.add(v);
            return world.waiting.size();
        }

        public int check(int n) {
            List<Integer> said = world.waiting;
            world.waiting = new ArrayList<>();
            if (!in(n, 0, 60)) {
                return error(1);
            }
            List<Integer> due = order(n);
            for (int i = 0; i < Math.max(said.size(), due.size()); i++) {
                if (i >= said.size() || i >= due.size() || !said.get(i).equals(due.get(i))) {
                    return 1 + i;
                }
            }
            return 0;
        }

        public int count(int what) {
            if (!in(what, 0, 8)) {
                return error(1);
            }
            return new int[] {world.now, world.rings.size(), world.order().size(), world.laws.size(), world.hole,
                world.tape.length(), world.waiting.size(), trace.size(), world.z}[what];
        }

        public int told(int k) {
            return in(k, 1, 5) ? told[k] : error(1);
        }
    }
}
