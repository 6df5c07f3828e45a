import java.util.Arrays;

/**
 * Rings of smoke that go through a room, draw one another by LAWS, and can be looked at ahead.
 * The words in capitals are those of the document.
 */
public final class SmokeRings {
    private static final int LOW = -1000000000;
    private static final int BEYOND = LOW - 1;
    private static final int NONE = LOW - 2;
    private static final int STATE = LOW - 3;
    private static final int FULL = LOW - 4;
    private static final int KIND = LOW - 5;
    private static final int ERRORS = 5;

    private static final int LAST_TICK = 9999;
    private static final int MOST_TICKS = 100;
    private static final int MOST_AHEAD = 60;
    private static final int MOST_RINGS = 8;
    private static final int MOST_X = 99999;
    private static final int MOST_Y = 999;
    private static final int MOST_TURNING = 999;
    private static final int MOST_WIDE = 200;
    private static final int MOST_THICK = 50;
    private static final int MOST_LAWS = 6;
    private static final int MOST_M = 99;
    private static final int MOST_HOLE = 50;
    private static final int MOST_LONG = 400;
    private static final int MOST_QUICK = 99;
    private static final int MOST_BYTES = 50;
    private static final int MOST_WAITING = 20;
    private static final int MOST_TRACED = 40;
    private static final int SHEETS = 4;
    private static final int MOST_NUMBERS = 40;
    private static final int MOST_OFF = 1000000;
    /** More than all numbers of a FILM together can be OFF. */
    private static final int TOO_FAR_OFF = MOST_NUMBERS * MOST_OFF + 1;
    private static final int SPUN_STEP = 9;

    private static final int THROUGH = 1;
    private static final int JOINING = 2;
    private static final int HEADLONG = 3;
    private static final int TORN = 4;
    private static final int WALLED = 5;
    private static final int SLANTED = 6;

    private static final int STROKES = 0;
    private static final int LOSSES = 1;
    private static final String STROKE_NAMES = "lqh";
    private static final String LOSS_NAMES = "twk";

    private final Room room;
    /** Where TICKS go by that are only looked at. */
    private final Room ahead;
    /** Whose RINGS several tries begin with. */
    private final Room start;
    private final Room kept;
    private int images;
    private final Row[] sheets;
    private final Row traced;
    /** Read here first, so that a FAULT leaves the TEXT ahead as it is. */
    private final Text fresh;
    private final int[] errors;

    public SmokeRings() {
        room = new Room();
        ahead = new Room();
        start = new Room();
        kept = new Room();
        images = 0;
        sheets = new Row[SHEETS];
        for (int i = 0; i < SHEETS; i++) {
            sheets[i] = new Row(MOST_NUMBERS);
        }
        traced = new Row(MOST_TRACED);
        fresh = new Text();
        errors = new int[ERRORS + 1];
    }

    // ---- rings, laws

    public int ring(int xy, int way, int turning, int wk) {
        int x = xy / 2000 - 100000;
        int y = xy % 2000 - 1000;
        int wide = wk / 100;
        int thick = wk % 100;
        if (!isHeld(x, -MOST_X, MOST_X) || !isHeld(y, -MOST_Y, MOST_Y)
                || way != 1 && way != -1 || !isHeld(turning, 0, MOST_TURNING)
                || !isHeld(wide, 1, MOST_WIDE) || !isHeld(thick, 1, MOST_THICK)) {
            return error(BEYOND);
        }
        if (room.isFull()) {
            return error(FULL);
        }
        return room.addRing(x, y, way, turning, wide, thick);
    }

    public int ofRing(int ring, int what) {
        if (!room.hasRing(ring) || !isHeld(what, 0, 7)) {
            return error(BEYOND);
        }
        return room.rings[ring].trait(what);
    }

    public int end(int ring) {
        if (!room.hasRing(ring)) {
            return error(BEYOND);
        }
        int was = asBit(room.rings[ring].whole);
        room.rings[ring].whole = false;
        return was;
    }

    public int wall(int x) {
        if (!isHeld(x, -MOST_X, MOST_X)) {
            return error(BEYOND);
        }
        int was = room.wall;
        room.wall = x;
        return was;
    }

    public int law(int kind, int m) {
        if (!isHeld(kind, 0, SLANTED) || !isHeld(m, 0, MOST_M)) {
            return error(BEYOND);
        }
        if (room.lawCount >= MOST_LAWS) {
            return error(FULL);
        }
        return room.addLaw(makeLaw(kind, room.lawCount, m));
    }

    public int ofLaw(int law, int what) {
        if (!room.hasLaw(law) || !isHeld(what, 0, 2)) {
            return error(BEYOND);
        }
        switch (what) {
            case 0: return room.laws[law].kind;
            case 1: return room.laws[law].m;
            default: return asBit(room.isOn(law));
        }
    }

    public int as(int law, int kind) {
        if (!room.hasLaw(law) || !isHeld(kind, 0, SLANTED)) {
            return error(BEYOND);
        }
        return isOfKind(room.laws[law], kind) ? room.laws[law].m : error(KIND);
    }

    public int turn(int law, int on) {
        if (!room.hasLaw(law) || !isHeld(on, 0, 1)) {
            return error(BEYOND);
        }
        int was = asBit(room.isOn(law));
        room.on = room.on & ~(1 << law) | on << law;
        return was;
    }

    public int does(int law, int ring, int other, int what) {
        if (!room.hasLaw(law) || !room.hasRing(ring) || !isHeld(what, 0, 3)) {
            return error(BEYOND);
        }
        Law acting = room.laws[law];
        Ring one = room.rings[ring];
        if (what == 2) {
            return acting.spreads(one, room.wall);
        }
        if (what == 3) {
            return acting.lifts(one, room.wall);
        }
        if (!room.hasRing(other) || ring == other) {
            return error(BEYOND);
        }
        Ring by = room.rings[other];
        return what == 0 ? acting.widens(one, by) : asBit(acting.endsBy(one, by));
    }

    public int pair(int one, int other, int what) {
        if (!room.hasRing(one) || !room.hasRing(other) || one == other || !isHeld(what, 0, 2)) {
            return error(BEYOND);
        }
        Ring first = room.rings[one];
        Ring second = room.rings[other];
        switch (what) {
            case 0: return first.gap(second);
            case 1: return asBit(first.isNear(second));
            default: return asBit(first.isBehind(second));
        }
    }

    // ---- strokes, texts

    public int hole(int v) {
        if (!isHeld(v, 1, MOST_HOLE)) {
            return error(BEYOND);
        }
        int was = room.hole;
        room.hole = v;
        return was;
    }

    public int stroke(int l, int q) {
        if (!isHeld(l, 1, MOST_LONG) || !isHeld(q, 1, MOST_QUICK)) {
            return error(BEYOND);
        }
        if (room.isFull()) {
            return error(FULL);
        }
        return room.addStroke(l, q);
    }

    public int trails(int l) {
        return isHeld(l, 1, MOST_LONG) ? room.trailing(l) : error(BEYOND);
    }

    public int feed(long word, int n) {
        if (!isHeld(n, 1, 8)) {
            return error(BEYOND);
        }
        if (room.tape.size + n > MOST_BYTES) {
            return error(FULL);
        }
        for (int i = 0; i < n; i++) {
            room.tape.add((int) (word >> 8 * i & 255L));
        }
        return room.tape.size;
    }

    public int text(int use) {
        if (!isHeld(use, STROKES, LOSSES)) {
            return error(BEYOND);
        }
        int fault = fresh.read(room.tape, use == STROKES ? STROKE_NAMES : LOSS_NAMES);
        room.tape.size = 0;
        if (fault >= 0) {
            return -10 - fault;
        }
        room.texts[use].become(fresh);
        return 1;
    }

    public int gives(int use, int a, int b, int c) {
        return isHeld(use, STROKES, LOSSES) ? room.given(use, a, b, c) : error(BEYOND);
    }

    // ---- ticks

    public int ticks(int n) {
        return pass(n, false);
    }

    public int breeze(int n) {
        return pass(n, true);
    }

    public int front() {
        int first = room.foremost();
        return first < 0 ? error(NONE) : first;
    }

    // ---- ahead

    public int then(int n, int ring, int what) {
        if (!isAhead(n) || !room.hasRing(ring) || !isHeld(what, 0, 7)) {
            return error(BEYOND);
        }
        goAhead(n);
        return ahead.rings[ring].trait(what);
    }

    public int whole(int n) {
        if (!isAhead(n)) {
            return error(BEYOND);
        }
        goAhead(n);
        return ahead.wholeCount();
    }

    public int turns(int n) {
        if (!isAhead(n)) {
            return error(BEYOND);
        }
        ahead.become(room);
        return ahead.changesOfFront(n, MOST_AHEAD);
    }

    public int far(int n, int ring) {
        if (!isAhead(n) || !room.hasRing(ring)) {
            return error(BEYOND);
        }
        if (!room.rings[ring].whole) {
            return error(NONE);
        }
        ahead.become(room);
        return ahead.greatestX(n, ring);
    }

    public int knock(int n, int ring, int x) {
        if (!isAhead(n) || !room.hasRing(ring) || !isHeld(x, -MOST_X, MOST_X)) {
            return error(BEYOND);
        }
        ahead.become(room);
        Ring going = ahead.rings[ring];
        for (int i = 0; i <= n && going.whole; i++) {
            if (going.x >= x) {
                return quotient(going.turning * 100, going.wide);
            }
            ahead.tick();
        }
        return error(NONE);
    }

    public int farthest(int n, int a, int b) {
        if (!isAhead(n) || !isHeld(a, 1, 40) || !isHeld(b, 1, 20)) {
            return error(BEYOND);
        }
        ahead.become(room);
        int best = -1;
        int answer = 0;
        for (int l = 1; l <= a; l++) {
            for (int q = 1; q <= b; q++) {
                ahead.ringCount = 0;
                int reached = ahead.greatestX(n, ahead.addStroke(l, q));
                if (reached > best) {
                    best = reached;
                    answer = 100 * l + q;
                }
            }
        }
        return answer;
    }

    public int second(int n, int d, int l) {
        if (!isAhead(n) || !isHeld(d, 0, 20) || !isHeld(l, 1, MOST_LONG)) {
            return error(BEYOND);
        }
        if (room.isFull()) {
            return error(FULL);
        }
        goAhead(d);
        start.takeRings(ahead);
        for (int q = 1; q <= MOST_QUICK; q++) {
            ahead.takeRings(start);
            ahead.addStroke(l, q);
            if (ahead.changesOfFront(n, 2) >= 2) {
                return q;
            }
        }
        return error(NONE);
    }

    public int alike(int n, int v) {
        if (!isAhead(n) || !isHeld(v, 0, MOST_TURNING)) {
            return error(BEYOND);
        }
        ahead.become(room);
        int most = Math.min(99, v);
        int alike = -1;
        for (int k = 0; k <= most; k++) {
            ahead.ringCount = 0;
            ahead.addRing(0, 0, 1, v, 20, 4);
            ahead.addRing(-20, 0, 1, v - k, 20, 4);
            if (ahead.changesOfFront(n, 1) < 1) {
                break;
            }
            alike = k;
        }
        return alike < 0 ? error(NONE) : alike;
    }

    // ---- films, hearts

    public int off(int sheet) {
        int wrong = filmError(sheet);
        if (wrong != 0) {
            return error(wrong);
        }
        ahead.become(room);
        return offBy(sheets[sheet], TOO_FAR_OFF);
    }

    public int spun(int sheet) {
        int wrong = filmError(sheet);
        if (wrong != 0) {
            return error(wrong);
        }
        ahead.become(room);
        int least = TOO_FAR_OFF;
        int answer = 0;
        for (int turning = 0; turning <= MOST_TURNING; turning += SPUN_STEP) {
            ahead.takeRings(room);
            ahead.rings[0].turning = turning;
            int off = offBy(sheets[sheet], least);
            if (off < least) {
                least = off;
                answer = turning;
            }
        }
        return answer;
    }

    public int made(int sheet) {
        int wrong = filmError(sheet);
        if (wrong != 0) {
            return error(wrong);
        }
        ahead.become(room);
        int least = TOO_FAR_OFF;
        int answer = 0;
        for (int set = 0; set < 1 << room.lawCount; set++) {
            ahead.takeRings(room);
            ahead.on = set;
            int off = offBy(sheets[sheet], least);
            if (off < least) {
                least = off;
                answer = set;
            }
        }
        return answer;
    }

    public int heart(int c) {
        if (!isHeld(c, 1, 9999)) {
            return error(BEYOND);
        }
        int best = -MOST_LONG;
        int answer = 0;
        for (int l = 1; l <= MOST_LONG; l++) {
            int trailing = room.trailing(l);
            for (int q = 1; q <= MOST_QUICK && l * q <= c; q++) {
                int gain = room.given(STROKES, l, q, room.hole) - trailing;
                if (gain > best) {
                    best = gain;
                    answer = 100 * l + q;
                }
            }
        }
        return answer;
    }

    // ---- draws, voices, sheets, images, what is told

    public int seed(int v) {
        int was = room.z;
        room.z = v;
        return was;
    }

    public int voice(int law, int act, int x) {
        if (!room.hasLaw(law) || !isHeld(act, 0, 3)) {
            return error(BEYOND);
        }
        Law speaker = room.laws[law];
        traced.size = 0;
        switch (act) {
            case 0: return speaker.goes(x, traced);
            case 1: return speaker.moves(x, traced);
            case 2: return speaker.ends(x, traced);
            default: return speaker.tells(x, traced);
        }
    }

    public int trace(int i) {
        return traced.has(i) ? traced.numbers[i] : error(NONE);
    }

    public int sheet(int sheet, int bits, int n) {
        if (!isSheet(sheet) || bits != 0 && bits != 8 && bits != 16 && bits != 32) {
            return error(BEYOND);
        }
        if (bits != 0 && n < 0) {
            return error(STATE);
        }
        if (bits != 0 && n > MOST_NUMBERS) {
            return error(BEYOND);
        }
        sheets[sheet].begin(bits, bits == 0 ? 0 : n);
        return 1;
    }

    public int put(int sheet, int i, int v) {
        if (!isSheet(sheet)) {
            return error(BEYOND);
        }
        if (isMissing(sheet)) {
            return error(NONE);
        }
        if (!sheets[sheet].has(i)) {
            return error(BEYOND);
        }
        sheets[sheet].write(i, v);
        return 1;
    }

    public int move(int sheet, int i, int other, int j, int n) {
        if (!isSheet(sheet) || !isSheet(other)) {
            return error(BEYOND);
        }
        if (isMissing(sheet) || isMissing(other)) {
            return error(NONE);
        }
        Row from = sheets[sheet];
        Row to = sheets[other];
        if (from.bits != to.bits) {
            return error(KIND);
        }
        if (!from.stands(i, n) || !to.stands(j, n)) {
            return error(BEYOND);
        }
        System.arraycopy(from.numbers, i, to.numbers, j, n);
        return n;
    }

    public int film(int sheet) {
        int wrong = filmError(sheet);
        if (wrong != 0) {
            return error(wrong);
        }
        Row film = sheets[sheet];
        ahead.become(room);
        Ring filmed = ahead.rings[0];
        for (int i = 0; i < film.size; i++) {
            ahead.tick();
            film.write(i, filmed.whole ? filmed.x : 0);
        }
        return film.size;
    }

    public int image() {
        kept.become(room);
        images++;
        return images;
    }

    public int restore() {
        if (images == 0) {
            return error(NONE);
        }
        room.become(kept);
        return room.now;
    }

    public int tell(int v) {
        if (room.waiting.size >= MOST_WAITING) {
            return error(FULL);
        }
        room.waiting.add(v);
        return room.waiting.size;
    }

    public int check(int n) {
        if (!isAhead(n)) {
            room.waiting.size = 0;
            return error(BEYOND);
        }
        goAhead(n);
        int answer = checked(room.waiting);
        room.waiting.size = 0;
        return answer;
    }

    public int count(int what) {
        switch (what) {
            case 0: return room.now;
            case 1: return room.ringCount;
            case 2: return room.wholeCount();
            case 3: return room.lawCount;
            case 4: return room.hole;
            case 5: return room.tape.size;
            case 6: return room.waiting.size;
            case 7: return traced.size;
            case 8: return room.z;
            default: return error(BEYOND);
        }
    }

    public int told(int k) {
        return isHeld(k, 1, ERRORS) ? errors[k] : error(BEYOND);
    }

    // ---- what the calls share

    /** Counts an ERROR and answers it. */
    private int error(int which) {
        int k = LOW - which;
        if (isHeld(k, 1, ERRORS)) {
            errors[k]++;
        }
        return which;
    }

    private int pass(int n, boolean windy) {
        if (!isHeld(n, 1, MOST_TICKS)) {
            return error(BEYOND);
        }
        if (room.now + n > LAST_TICK) {
            return error(STATE);
        }
        for (int i = 0; i < n; i++) {
            room.tick();
            if (windy) {
                room.blow();
            }
        }
        return room.now;
    }

    private void goAhead(int n) {
        ahead.become(room);
        for (int i = 0; i < n; i++) {
            ahead.tick();
        }
    }

    /** Compares numbers with the whole RINGS ahead, which are taken away one by one, FRONT first. */
    private int checked(Row numbers) {
        for (int i = 0; i <= numbers.size; i++) {
            int first = ahead.foremost();
            if (first < 0) {
                return i == numbers.size ? 0 : 1 + i;
            }
            if (!numbers.has(i) || numbers.numbers[i] != first) {
                return 1 + i;
            }
            ahead.rings[first].whole = false;
        }
        return 0;
    }

    /** The ERROR that keeps a SHEET from being a FILM of RING 0, or 0. */
    private int filmError(int sheet) {
        if (!isSheet(sheet)) {
            return BEYOND;
        }
        return isMissing(sheet) || room.ringCount == 0 ? NONE : 0;
    }

    /** How far RING 0 ahead is OFF; told no more closely once it is not less than enough. */
    private int offBy(Row film, int enough) {
        Ring filmed = ahead.rings[0];
        int off = 0;
        for (int i = 0; i < film.size && filmed.whole && off < enough; i++) {
            ahead.tick();
            if (filmed.whole) {
                // 32 bits may lie farther from X than an int reaches
                long difference = Math.abs((long) filmed.x - film.numbers[i]);
                off += (int) Math.min(difference, MOST_OFF);
            }
        }
        return off;
    }

    private boolean isMissing(int sheet) {
        return sheets[sheet].bits == 0;
    }

    private static boolean isSheet(int sheet) {
        return isHeld(sheet, 0, SHEETS - 1);
    }

    private static boolean isAhead(int n) {
        return isHeld(n, 0, MOST_AHEAD);
    }

    private static boolean isHeld(int v, int least, int most) {
        return v >= least && v <= most;
    }

    private static int held(int v, int least, int most) {
        return v < least ? least : v > most ? most : v;
    }

    private static int asBit(boolean so) {
        return so ? 1 : 0;
    }

    /** A quotient, cut; by 0 it is 0. */
    private static int quotient(int a, int b) {
        return b == 0 ? 0 : a / b;
    }

    private static Law makeLaw(int kind, int number, int m) {
        switch (kind) {
            case THROUGH: return new Through(number, m);
            case JOINING: return new Joining(number, m);
            case HEADLONG: return new Headlong(HEADLONG, number, m);
            case TORN: return new Torn(number, m);
            case WALLED: return new Walled(WALLED, number, m);
            case SLANTED: return new Slanted(number, m);
            default: return new Law(0, number, m);
        }
    }

    private static boolean isOfKind(Law law, int kind) {
        switch (kind) {
            case THROUGH: return law instanceof Through;
            case JOINING: return law instanceof Joining;
            case HEADLONG: return law instanceof Headlong;
            case TORN: return law instanceof Torn;
            case WALLED: return law instanceof Walled;
            case SLANTED: return law instanceof Slanted;
            default: return true;
        }
    }

    // ---- classes inside

    /** A few numbers in a row: THE TAPE, THE TRACE, the numbers that wait, a SHEET. */
    private static final class Row {
        final int[] numbers;
        int size;
        /** How many bits each number of a SHEET has; 0: the SHEET is missing. */
        int bits;

        Row(int most) {
            numbers = new int[most];
        }

        void become(Row other) {
            size = Math.min(other.size, numbers.length);
            System.arraycopy(other.numbers, 0, numbers, 0, size);
        }

        void add(int v) {
            if (size < numbers.length) {
                numbers[size] = v;
                size++;
            }
        }

        boolean has(int i) {
            return i >= 0 && i < size;
        }

        /** Whether n numbers stand here from number i on. */
        boolean stands(int i, int n) {
            return i >= 0 && n >= 0 && i <= size && n <= size - i;
        }

        void begin(int bits, int size) {
            this.bits = bits;
            this.size = Math.min(size, numbers.length);
            Arrays.fill(numbers, 0);
        }

        /** Number i becomes the lowest bits of v, with their sign. */
        void write(int i, int v) {
            if (has(i)) {
                numbers[i] = bits == 8 ? (byte) v : bits == 16 ? (short) v : v;
            }
        }
    }

    /** A RING. */
    private static final class Ring {
        final int number;
        int x;
        int y;
        int way;
        int turning;
        int wide;
        int thick;
        boolean whole;

        Ring(int number) {
            this.number = number;
            way = 1;
            wide = 1;
            thick = 1;
        }

        void become(Ring other) {
            x = other.x;
            y = other.y;
            way = other.way;
            turning = other.turning;
            wide = other.wide;
            thick = other.thick;
            whole = other.whole;
        }

        int pace() {
            int factor = 3;
            for (int w = wide; w > 0 && w > thick; w /= 2) {
                factor++;
            }
            return quotient(turning * factor, wide);
        }

        int trait(int what) {
            switch (what) {
                case 0: return x;
                case 1: return y;
                case 2: return way;
                case 3: return turning;
                case 4: return wide;
                case 5: return thick;
                case 6: return asBit(whole);
                default: return pace();
            }
        }

        int gap(Ring other) {
            return x < other.x ? other.x - x : x - other.x;
        }

        boolean isNear(Ring other) {
            return Math.abs(y - other.y) < wide + other.wide;
        }

        boolean isBehind(Ring other) {
            if (way != other.way) {
                return false;
            }
            return x == other.x ? number > other.number : (other.x - x) * way > 0;
        }
    }

    /** A LAW of KIND 0, and what the other KINDS keep of it. */
    private static class Law {
        final int kind;
        final int number;
        final int m;

        Law(int kind, int number, int m) {
            this.kind = kind;
            this.number = number;
            this.m = m;
        }

        /** How strongly the other RING draws, whichever way. */
        int pull(Ring ring, Ring other) {
            return quotient(m * other.turning, ring.gap(other) + 10);
        }

        int widens(Ring ring, Ring other) {
            if (ring.way != other.way || !ring.isNear(other)) {
                return 0;
            }
            int pull = pull(ring, other);
            return ring.isBehind(other) ? -pull : pull;
        }

        int spreads(Ring ring, int wall) {
            return 0;
        }

        int lifts(Ring ring, int wall) {
            return 0;
        }

        boolean endsBy(Ring ring, Ring other) {
            return false;
        }

        int goes(int x, Row trace) {
            trace.add(10);
            return x + number;
        }

        int moves(int x, Row trace) {
            trace.add(11);
            return goes(x, trace) * 2;
        }

        int ends(int x, Row trace) {
            trace.add(12);
            return x - m;
        }

        int tells(int x, Row trace) {
            trace.add(13);
            return moves(x, trace) ^ ends(x, trace);
        }
    }

    private static final class Through extends Law {
        Through(int number, int m) {
            super(THROUGH, number, m);
        }

        @Override
        int widens(Ring ring, Ring other) {
            int once = super.widens(ring, other);
            return ring.gap(other) < ring.thick + other.thick ? 2 * once : once;
        }

        @Override
        int moves(int x, Row trace) {
            trace.add(20);
            return super.moves(x, trace) - ends(1, trace);
        }
    }

    private static final class Joining extends Law {
        Joining(int number, int m) {
            super(JOINING, number, m);
        }

        @Override
        boolean endsBy(Ring ring, Ring other) {
            return ring.isNear(other) && ring.gap(other) <= m && ring.isBehind(other);
        }

        @Override
        int goes(int x, Row trace) {
            trace.add(30);
            return super.goes(x, trace) * 3;
        }
    }

    private static class Headlong extends Law {
        Headlong(int kind, int number, int m) {
            super(kind, number, m);
        }

        @Override
        int widens(Ring ring, Ring other) {
            return ring.way != other.way && ring.isNear(other) ? pull(ring, other) : 0;
        }

        @Override
        int ends(int x, Row trace) {
            trace.add(40);
            return -super.ends(x, trace);
        }
    }

    private static final class Torn extends Headlong {
        Torn(int number, int m) {
            super(TORN, number, m);
        }

        @Override
        boolean endsBy(Ring ring, Ring other) {
            return ring.wide >= 150 && ring.isNear(other);
        }

        @Override
        int goes(int x, Row trace) {
            trace.add(50);
            return super.goes(x + 1, trace);
        }

        @Override
        int tells(int x, Row trace) {
            trace.add(51);
            return super.tells(x, trace) - goes(2, trace);
        }
    }

    private static class Walled extends Law {
        Walled(int kind, int number, int m) {
            super(kind, number, m);
        }

        @Override
        int widens(Ring ring, Ring other) {
            return 0;
        }

        @Override
        int spreads(Ring ring, int wall) {
            int distance = Math.abs(wall - ring.x);
            return distance < 100 ? quotient(m * ring.turning, distance + 10) : 0;
        }

        @Override
        int moves(int x, Row trace) {
            trace.add(60);
            return super.moves(x, trace) ^ number;
        }
    }

    private static final class Slanted extends Walled {
        Slanted(int number, int m) {
            super(SLANTED, number, m);
        }

        @Override
        int spreads(Ring ring, int wall) {
            return super.spreads(ring, wall) / 2;
        }

        @Override
        int lifts(Ring ring, int wall) {
            return spreads(ring, wall);
        }

        @Override
        int ends(int x, Row trace) {
            trace.add(70);
            return super.ends(x, trace) + m;
        }

        @Override
        int tells(int x, Row trace) {
            trace.add(71);
            return moves(x, trace) - super.tells(x, trace);
        }
    }

    /**
     * A TEXT, kept as codes of which each operator stands behind what it takes: numbers as they
     * are, NAMES as -1, -2, -3, operators as their signs below 0. Without codes there is no TEXT.
     */
    private static final class Text {
        private static final int MOST_OPEN = 5;
        private static final int MOST_DIGITS = 4;
        private static final int NAMES = 3;
        private static final int COMPARING = 3;

        final int[] codes;
        int size;
        /** Operators that wait while it is read, values while it is worked out. */
        private final int[] stack;
        private int top;
        /** How many ! and ( are open. */
        private int open;
        /** How many digits of a NUMBER were the latest signs. */
        private int digits;
        /** Whether a Q has to come next. */
        private boolean wanting;

        Text() {
            codes = new int[MOST_BYTES];
            stack = new int[MOST_BYTES];
        }

        void become(Text other) {
            size = other.size;
            System.arraycopy(other.codes, 0, codes, 0, size);
        }

        /** Reads THE TAPE: -1, or the FAULT. */
        int read(Row tape, String names) {
            size = 0;
            top = 0;
            open = 0;
            digits = 0;
            wanting = true;
            for (int i = 0; i < tape.size; i++) {
                int sign = tape.numbers[i];
                boolean goesOn = wanting ? takesOperand(sign, names) : takesOperator(sign);
                if (!goesOn) {
                    return i;
                }
            }
            return isComplete() ? -1 : tape.size;
        }

        private boolean takesOperand(int sign, String names) {
            if (sign == '!' || sign == '(') {
                open++;
                push(sign);
                return open <= MOST_OPEN;
            }
            wanting = false;
            if (isDigit(sign)) {
                digits = 1;
                append(sign - '0');
                return true;
            }
            int name = names.indexOf((char) sign);
            append(-1 - name);
            return name >= 0;
        }

        private boolean takesOperator(int sign) {
            if (isDigit(sign)) {
                return takesDigit(sign);
            }
            digits = 0;
            if (sign == ')') {
                return takesClose();
            }
            int rank = rank(sign);
            if (rank == 0 || sign == '!') {
                return false;
            }
            popAbove(rank);
            if (top > 0 && rank(stack[top - 1]) == rank) {
                if (rank == COMPARING) {
                    return false;
                }
                pop();
            }
            push(sign);
            wanting = true;
            return true;
        }

        private boolean takesDigit(int sign) {
            if (digits == 0 || digits >= MOST_DIGITS || size == 0) {
                return false;
            }
            digits++;
            codes[size - 1] = codes[size - 1] * 10 + sign - '0';
            return true;
        }

        private boolean takesClose() {
            popAbove(0);
            if (top == 0) {
                return false;
            }
            top--;
            open--;
            return true;
        }

        private boolean isComplete() {
            popAbove(0);
            return !wanting && top == 0;
        }

        /** Operators that bind more tightly than a rank have all that they take. */
        private void popAbove(int rank) {
            for (int i = top; i > 0 && rank(stack[i - 1]) > rank; i--) {
                pop();
            }
        }

        private void pop() {
            if (top > 0) {
                top--;
                append(-stack[top]);
                if (stack[top] == '!') {
                    open--;
                }
            }
        }

        private void push(int v) {
            if (top < stack.length) {
                stack[top] = v;
                top++;
            }
        }

        private void append(int code) {
            if (size < codes.length) {
                codes[size] = code;
                size++;
            }
        }

        int value(int a, int b, int c) {
            top = 0;
            for (int i = 0; i < size; i++) {
                int code = codes[i];
                if (code >= 0) {
                    push(code);
                } else if (code >= -NAMES) {
                    push(code == -1 ? a : code == -2 ? b : c);
                } else if (code == -'!' && top > 0) {
                    stack[top - 1] = asBit(stack[top - 1] == 0);
                } else if (top > 1) {
                    top--;
                    stack[top - 1] = result(-code, stack[top - 1], stack[top]);
                }
            }
            return top > 0 ? stack[top - 1] : 0;
        }

        private static int result(int sign, int a, int b) {
            switch (sign) {
                case '|': return asBit(a != 0 || b != 0);
                case '&': return asBit(a != 0 && b != 0);
                case '<': return asBit(a < b);
                case '=': return asBit(a == b);
                case '>': return asBit(a > b);
                case '+': return a + b;
                case '-': return a - b;
                case '*': return a * b;
                case '/': return quotient(a, b);
                default: return b == 0 ? 0 : a % b;
            }
        }

        /** How tightly an operator binds; 0: it is none. */
        private static int rank(int sign) {
            switch (sign) {
                case '|': return 1;
                case '&': return 2;
                case '<': case '=': case '>': return COMPARING;
                case '+': case '-': return 4;
                case '*': case '/': case '%': return 5;
                case '!': return 6;
                default: return 0;
            }
        }

        private static boolean isDigit(int sign) {
            return sign >= '0' && sign <= '9';
        }
    }

    /** All that an IMAGE keeps, and how a TICK goes by in it. */
    private static final class Room {
        final Ring[] rings;
        int ringCount;
        /** The RINGS as they were ahead of the TICK. */
        private final Ring[] before;
        final Law[] laws;
        int lawCount;
        /** A bit for each LAW: whether it is on. */
        int on;
        int wall;
        int hole;
        int now;
        int z;
        final Text[] texts;
        final Row tape;
        final Row waiting;

        Room() {
            rings = new Ring[MOST_RINGS];
            before = new Ring[MOST_RINGS];
            for (int i = 0; i < MOST_RINGS; i++) {
                rings[i] = new Ring(i);
                before[i] = new Ring(i);
            }
            laws = new Law[MOST_LAWS];
            wall = MOST_X;
            hole = 10;
            z = 1;
            texts = new Text[2];
            texts[STROKES] = new Text();
            texts[LOSSES] = new Text();
            tape = new Row(MOST_BYTES);
            waiting = new Row(MOST_WAITING);
        }

        void become(Room other) {
            takeRings(other);
            for (int i = 0; i < MOST_LAWS; i++) {
                laws[i] = other.laws[i];
            }
            lawCount = other.lawCount;
            on = other.on;
            wall = other.wall;
            hole = other.hole;
            now = other.now;
            z = other.z;
            texts[STROKES].become(other.texts[STROKES]);
            texts[LOSSES].become(other.texts[LOSSES]);
            tape.become(other.tape);
            waiting.become(other.waiting);
        }

        void takeRings(Room other) {
            ringCount = other.ringCount;
            for (int i = 0; i < ringCount; i++) {
                rings[i].become(other.rings[i]);
            }
        }

        boolean isFull() {
            return ringCount >= MOST_RINGS;
        }

        boolean hasRing(int ring) {
            return ring >= 0 && ring < ringCount;
        }

        boolean hasLaw(int law) {
            return law >= 0 && law < lawCount && laws[law] != null;
        }

        boolean isOn(int law) {
            return (on >> law & 1) != 0;
        }

        /** A LAW if it is on, else null. */
        private Law lawOn(int law) {
            return isOn(law) ? laws[law] : null;
        }

        /** Puts a RING behind the others, where there is room for it: its number. */
        int addRing(int x, int y, int way, int turning, int wide, int thick) {
            int number = Math.min(ringCount, MOST_RINGS - 1);
            Ring ring = rings[number];
            ring.x = x;
            ring.y = y;
            ring.way = way;
            ring.turning = turning;
            ring.wide = wide;
            ring.thick = thick;
            ring.whole = true;
            ringCount = number + 1;
            return number;
        }

        int addStroke(int l, int q) {
            return addRing(0, 0, 1, given(STROKES, l, q, hole), hole, 1 + hole / 5);
        }

        /** Puts a LAW, which is on, behind the others, where there is room for it: its number. */
        int addLaw(Law law) {
            int number = Math.min(lawCount, MOST_LAWS - 1);
            laws[number] = law;
            on |= 1 << number;
            lawCount = number + 1;
            return number;
        }

        int trailing(int l) {
            return Math.max(0, l - 4 * hole);
        }

        /** What a USE gives. */
        int given(int use, int a, int b, int c) {
            Text text = texts[use];
            int v;
            if (text.size > 0) {
                v = text.value(a, b, c);
            } else if (use == STROKES) {
                v = a < c * 4 ? b * a / 4 : b * c;
            } else {
                v = a / 50 + b / 100;
            }
            return held(v, 0, MOST_TURNING);
        }

        /** FRONT, or -1. */
        int foremost() {
            int first = -1;
            for (int i = 0; i < ringCount; i++) {
                if (rings[i].whole && (first < 0 || rings[i].x > rings[first].x)) {
                    first = i;
                }
            }
            return first;
        }

        int wholeCount() {
            int n = 0;
            for (int i = 0; i < ringCount; i++) {
                n += asBit(rings[i].whole);
            }
            return n;
        }

        /** TURNS while n TICKS go by, which end as soon as there are enough of them. */
        int changesOfFront(int n, int enough) {
            int changes = 0;
            int first = foremost();
            for (int i = 0; i < n && changes < enough; i++) {
                tick();
                int next = foremost();
                if (first >= 0 && next >= 0 && first != next) {
                    changes++;
                }
                first = next;
            }
            return changes;
        }

        /** FAR of a RING that is whole, while n TICKS go by. */
        int greatestX(int n, int ring) {
            Ring going = rings[ring];
            int greatest = going.x;
            for (int i = 0; i < n && going.whole; i++) {
                tick();
                if (going.whole) {
                    greatest = Math.max(greatest, going.x);
                }
            }
            return greatest;
        }

        void tick() {
            for (int i = 0; i < ringCount; i++) {
                before[i].become(rings[i]);
            }
            for (int i = 0; i < ringCount; i++) {
                if (before[i].whole) {
                    advance(rings[i], before[i]);
                    widen(rings[i], before[i]);
                }
            }
            for (int i = 0; i < ringCount; i++) {
                if (before[i].whole) {
                    endIfDue(i);
                }
            }
            for (int i = 0; i < ringCount; i++) {
                if (rings[i].whole) {
                    settle(rings[i]);
                }
            }
            now++;
        }

        /** What a BREEZE does behind a TICK. */
        void blow() {
            for (int i = 0; i < ringCount; i++) {
                Ring ring = rings[i];
                if (ring.whole) {
                    z = z * 1103515245 + 12345;
                    ring.y = held(ring.y + (z >>> 8) % 7 - 3, -MOST_Y, MOST_Y);
                }
            }
        }

        /** All that changes of a RING but how wide it is. */
        private void advance(Ring ring, Ring was) {
            int lifted = 0;
            for (int i = 0; i < lawCount; i++) {
                Law law = lawOn(i);
                if (law != null) {
                    lifted += law.lifts(was, wall);
                }
            }
            int loss = given(LOSSES, was.turning, was.wide, was.thick);
            ring.x = held(was.x + was.pace() * was.way, -MOST_X, MOST_X);
            ring.y = held(was.y + lifted, -MOST_Y, MOST_Y);
            ring.turning = held(was.turning - loss, 0, MOST_TURNING);
        }

        private void widen(Ring ring, Ring was) {
            int wide = was.wide;
            for (int i = 0; i < lawCount; i++) {
                Law law = lawOn(i);
                if (law != null) {
                    wide += law.spreads(was, wall);
                    for (int k = 0; k < ringCount; k++) {
                        if (isOther(was, before[k])) {
                            wide += law.widens(was, before[k]);
                        }
                    }
                }
            }
            ring.wide = held(wide, 1, MOST_WIDE);
        }

        private static boolean isOther(Ring ring, Ring other) {
            return other.whole && other.number != ring.number;
        }

        private void endIfDue(int number) {
            Ring was = before[number];
            for (int i = 0; i < ringCount; i++) {
                Law law = isOther(was, before[i]) ? endingLaw(was, before[i]) : null;
                if (law != null) {
                    rings[number].whole = false;
                    if (law instanceof Joining && rings[i].whole) {
                        int together = rings[i].turning + rings[number].turning;
                        rings[i].turning = Math.min(together, MOST_TURNING);
                    }
                    return;
                }
            }
        }

        /** The first LAW that is on and ends a RING by another one, or null. */
        private Law endingLaw(Ring ring, Ring other) {
            for (int i = 0; i < lawCount; i++) {
                Law law = lawOn(i);
                if (law != null && law.endsBy(ring, other)) {
                    return law;
                }
            }
            return null;
        }

        /** What is left of a TICK for a RING that is still whole. */
        private void settle(Ring ring) {
            if (ring.turning == 0) {
                ring.whole = false;
            } else if (ring.way == 1 && ring.x > wall) {
                ring.x = wall;
            }
        }
    }
}
