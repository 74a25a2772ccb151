/** A rock that tumbles by up to three turnings, and a farm that goes about on it for light. */
public final class TumblingRock {
    public static final int NONE = -1, UNKNOWN = -1000000001, OUTSIDE = -1000000002, NOT = -1000000003, FULL = -1000000004;

    private static final int TURNINGS = 3, PARTS = 12, PLACES = 8, WAYS = 12, PUSHES = 4;
    /** PARTS three times by itself: as many ways as three TURNINGS can stand. */
    private static final int STANDINGS = 1728;
    private static final int TEXT_BYTES = 400, FIGURES = 3;
    /** V, A, B, C are told 0 .. 18 and stand for 9 less. */
    private static final int MOST_TOLD = 18, TOLD_ABOVE = 9;
    private static final int MOST_SHIFT = 11;
    private static final int LAST_STEP = 999999, LAST_SEEN_STEP = 9999;
    private static final int MOST_STAY = 999, MOST_DRIFT = 99, MOST_WAY_STEPS = 40;
    private static final int DRAWS_PER_KNOCK = 8;
    private static final int SIGHTS = 20, LOOK_STEPS = 24, BOOK_PLACES = 30, IMAGES = 2;
    private static final int CANNOT_STAND = 1, OUT_OF_BOUNDS = 2, TOO_MANY = 3, TWICE = 4;

    private final Text text;
    private final Reader reader;
    private final Farm farm;
    private final Farm[] images;
    private final boolean[] kept;
    private final Sight sight;
    private final Route route;
    private final Mender mender;
    private final Book book;
    /** The reader fills the spare one, so that a text with a FAULT leaves the other as it was. */
    private Rock rock, spare;

    public TumblingRock() {
        text = new Text();
        reader = new Reader(text);
        farm = new Farm();
        images = new Farm[IMAGES];
        for (int i = 0; i < IMAGES; i++) images[i] = new Farm();
        kept = new boolean[IMAGES];
        sight = new Sight();
        route = new Route();
        mender = new Mender();
        book = new Book();
        rock = new Rock();
        spare = new Rock();
    }

    // ---- the rock

    public int feed(int n, long bytes) {
        if (!inside(n, 1, 8)) return OUTSIDE;
        return text.take(n, bytes) ? text.length : FULL;
    }

    public int rock() {
        boolean whole = reader.reads(spare);
        text.length = 0;
        if (!whole) return -10 - reader.fault;
        Rock latest = spare;
        spare = rock;
        rock = latest;
        rock.settle();
        beginAnew();
        return rock.places;
    }

    public int fault() {
        return reader.faultAt;
    }

    public int told(int what) {
        switch (what) {
            case 0: return rock.turnings;
            case 1: return rock.places;
            case 2: return rock.ways;
            case 3: return rock.pushes;
            case 4: return text.length;
            case 5: return rock.period;
            case 6: return farm.step;
            case 7: return rock.places > 0 ? farm.where : NONE;
            case 8: return farm.light;
            case 9: return sight.seen;
            case 10: return book.length;
            case 11: return rock.litSet(standingAt(farm.step));
            default: return OUTSIDE;
        }
    }

    public int turning(int i, int what) {
        if (!isTurning(i)) return UNKNOWN;
        int stands = rock.digit(standingAt(farm.step), i);
        switch (what) {
            case 0: return rock.size(i);
            case 1: return rock.digit(farm.shifts, i);
            case 2: return stands;
            case 3: return rock.part(i, stands);
            default: return OUTSIDE;
        }
    }

    public int place(int p, int what) {
        if (!isPlace(p)) return UNKNOWN;
        switch (what) {
            case 0:
            case 1:
            case 2: return rock.face(p, what);
            case 3: return rock.road(p);
            case 4: return rock.longestDark(p, farm.shifts);
            case 5: return rock.litSteps(p, farm.shifts);
            default: return OUTSIDE;
        }
    }

    public int height(int p, int step) {
        if (!isPlace(p)) return UNKNOWN;
        if (!isStep(step)) return OUTSIDE;
        return rock.heightOf(p, standingAt(step));
    }

    // ---- steps

    public int stay(int n) {
        if (!inside(n, 1, MOST_STAY)) return OUTSIDE;
        if (rock.places == 0) return NOT;
        int light = 0;
        for (int k = 0; k < n; k++) light += farm.goOn(rock);
        return light;
    }

    public int go(int p) {
        if (!isPlace(p)) return UNKNOWN;
        if (!rock.leads(farm.where, p)) return NOT;
        farm.where = p;
        return farm.goOn(rock);
    }

    public int knock(int i, int k) {
        if (!isTurning(i)) return UNKNOWN;
        if (!inside(k, 0, MOST_SHIFT)) return OUTSIDE;
        farm.shifts = rock.knocked(farm.shifts, i, k);
        return rock.digit(farm.shifts, i);
    }

    public int push(int k) {
        if (!inside(k, 0, rock.pushes - 1)) return UNKNOWN;
        farm.shifts = rock.pushed(farm.shifts, k);
        return rock.shiftedBy(k);
    }

    public int drift(int n) {
        if (!inside(n, 1, MOST_DRIFT)) return OUTSIDE;
        if (rock.turnings == 0 || rock.places == 0) return NOT;
        int light = 0;
        for (int k = 0; k < n; k++) light += farm.goByDraws(rock);
        return light;
    }

    // ---- light

    public int next(int p, int step, int what) {
        if (!isPlace(p)) return UNKNOWN;
        if (!isStep(step) || !inside(what, 0, 1)) return OUTSIDE;
        int standing = standingAt(step);
        return what == 0 ? rock.stepsTillLit(p, standing) : rock.stepsOfLight(p, standing);
    }

    public int share(int p, int part) {
        if (!isPlace(p)) return UNKNOWN;
        if (!inside(part, 0, 1)) return OUTSIDE;
        int lit = rock.litSteps(p, farm.shifts);
        int common = commonDivisor(lit, rock.period);
        if (common < 1) return 0;
        return (part == 0 ? lit : rock.period) / common;
    }

    public int stand(int a, int b, int c, int step) {
        if (!areShifts(a, b, c) || !isStep(step)) return OUTSIDE;
        int till = rock.stepsTillStanding(standingAt(step), rock.standingOf(a, b, c));
        return till == NONE ? NONE : step + till;
    }

    public int way(int p, int step, int n, int i) {
        if (!isPlace(p)) return UNKNOWN;
        if (!isStep(step) || !inside(n, 1, MOST_WAY_STEPS) || !inside(i, NONE, n)) return OUTSIDE;
        route.weigh(rock, standingAt(step), n);
        return i == NONE ? route.mostLight(0, p) : route.placeBehind(rock, p, i);
    }

    public int mail(int p, int q, int step) {
        if (!isPlace(p) || !isPlace(q)) return UNKNOWN;
        if (!isStep(step)) return OUTSIDE;
        return route.fewestLitSteps(rock, p, q, standingAt(step));
    }

    public int cross(int p, int q, int step) {
        if (!isPlace(p) || !isPlace(q) || p == q) return UNKNOWN;
        if (!isStep(step)) return OUTSIDE;
        int till = rock.stepsTillCross(p, q, standingAt(step));
        return till == NONE ? NONE : step + till;
    }

    public int store() {
        int best = NONE, least = rock.period + 1;
        for (int p = 0; p < rock.places; p++) {
            int dark = rock.longestDark(p, farm.shifts);
            if (dark < least) {
                least = dark;
                best = p;
            }
        }
        return best;
    }

    // ---- what was seen

    public int see(int p, int step, boolean lit) {
        if (!isPlace(p)) return UNKNOWN;
        if (!inside(step, 0, LAST_SEEN_STEP)) return OUTSIDE;
        if (sight.seen >= SIGHTS) return FULL;
        sight.narrow(rock, p, step, lit);
        return sight.seen;
    }

    public int fits(int i, int k) {
        if (i == NONE) return sight.fitting;
        if (!isTurning(k)) return UNKNOWN;
        if (!inside(i, 0, sight.fitting - 1)) return NONE;
        return rock.digit(sight.fitAt(i), k);
    }

    public int look(int what) {
        if (!inside(what, 0, 2)) return OUTSIDE;
        sight.findLook(rock);
        if (what == 0) return sight.lookPlace;
        return what == 1 ? sight.lookStep : sight.lookPart;
    }

    public int mend(int a, int b, int c, int i) {
        if (!areShifts(a, b, c)) return OUTSIDE;
        int many = mender.fewest(rock, farm.shifts, rock.standingOf(a, b, c));
        if (i == NONE) return many;
        return inside(i, 0, many - 1) ? mender.pushAt(rock, farm.shifts, i) : NONE;
    }

    // ---- books, draws, images

    public int write(int p) {
        if (!isPlace(p)) return UNKNOWN;
        return book.add(p) ? book.length : FULL;
    }

    public int tear() {
        int both = book.length + sight.seen;
        book.length = 0;
        sight.forget(rock);
        return both;
    }

    public int judge(int what) {
        if (!inside(what, 0, 1)) return OUTSIDE;
        return what == 0 ? book.firstWrong(rock) : book.lightOf(rock, farm.shifts);
    }

    public int seed(int v) {
        if (v < 0) return OUTSIDE;
        int before = farm.seed;
        farm.seed = v;
        return before;
    }

    public int keep(int i) {
        if (!inside(i, 0, IMAGES - 1)) return UNKNOWN;
        images[i].become(farm);
        kept[i] = true;
        return 1;
    }

    public int goBack(int i) {
        if (!inside(i, 0, IMAGES - 1)) return UNKNOWN;
        if (!kept[i]) return NOT;
        farm.become(images[i]);
        return 1;
    }

    // ---- what the calls share

    private void beginAnew() {
        farm.begin();
        sight.forget(rock);
        book.length = 0;
        for (int i = 0; i < IMAGES; i++) kept[i] = false;
    }

    private int standingAt(int step) {
        return rock.moved(farm.shifts, step, step, step);
    }

    private boolean isTurning(int i) {
        return inside(i, 0, rock.turnings - 1);
    }

    private boolean isPlace(int p) {
        return inside(p, 0, rock.places - 1);
    }

    private static boolean isStep(int step) {
        return inside(step, 0, LAST_STEP);
    }

    private static boolean areShifts(int a, int b, int c) {
        return inside(a, 0, MOST_SHIFT) && inside(b, 0, MOST_SHIFT) && inside(c, 0, MOST_SHIFT);
    }

    private static boolean inside(int x, int least, int most) {
        return x >= least && x <= most;
    }

    private static int leftOver(int x, int n) {
        return n < 1 ? 0 : x % n;
    }

    private static int at(int[] row, int i) {
        return i >= 0 && i < row.length ? row[i] : 0;
    }

    private static void put(int[] row, int i, int value) {
        if (i >= 0 && i < row.length) row[i] = value;
    }

    private static int bit(int set, int p) {
        return set >> p & 1;
    }

    private static int memberAt(int set, int i) {
        int ahead = 0;
        for (int p = 0; p < PLACES; p++) {
            if (bit(set, p) == 0) continue;
            if (ahead == i) return p;
            ahead++;
        }
        return NONE;
    }

    private static int commonDivisor(int a, int b) {
        for (int d = Math.max(a, b); d > 1; d--) {
            if (a % d == 0 && b % d == 0) return d;
        }
        return 1;
    }

    /** THE TEXT, byte by byte. */
    private static final class Text {
        final int[] bytes = new int[TEXT_BYTES];
        int length;

        boolean take(int n, long word) {
            if (length + n > TEXT_BYTES) return false;
            for (int k = n - 1; k >= 0; k--) {
                put(bytes, length, (int) (word >> 8 * k & 255));
                length++;
            }
            return true;
        }

        /** NONE behind the end, so that the end is a byte that can stand nowhere. */
        int byteAt(int i) {
            return i >= 0 && i < length && i < TEXT_BYTES ? bytes[i] : NONE;
        }

        boolean isLetter(int i) {
            return inside(byteAt(i), 'a', 'z');
        }

        boolean isFigure(int i) {
            return inside(byteAt(i), '0', '9');
        }

        boolean spells(int from, int to, String word) {
            if (to - from != word.length()) return false;
            for (int k = 0; k < word.length(); k++) {
                if (byteAt(from + k) != word.charAt(k)) return false;
            }
            return true;
        }
    }

    /** Reads THE TEXT from left to right: the first FAULT that it comes to is the one to tell. */
    private static final class Reader {
        final Text text;
        int at, fault, faultAt;

        Reader(Text text) {
            this.text = text;
            faultAt = NONE;
        }

        boolean reads(Rock rock) {
            at = 0;
            fault = 0;
            faultAt = NONE;
            rock.clear();
            passBlanks();
            for (int clause = 0; clause < TEXT_BYTES && fault == 0 && at < text.length; clause++) {
                readClause(rock);
                passBlanks();
            }
            return fault == 0;
        }

        void refuse(int number, int where) {
            if (fault != 0) return;
            fault = number;
            faultAt = where;
        }

        void passBlanks() {
            while (at < text.length && text.byteAt(at) == ' ') at++;
        }

        void readClause(Rock rock) {
            int start = at;
            while (at < text.length && text.isLetter(at)) at++;
            if (text.spells(start, at, "turn")) {
                if (hasRoom(rock.turnings, TURNINGS, start)) readTurning(rock);
            } else if (text.spells(start, at, "place")) {
                if (hasRoom(rock.places, PLACES, start)) readPlace(rock);
            } else if (text.spells(start, at, "way")) {
                if (hasRoom(rock.ways, WAYS, start)) readWay(rock);
            } else if (text.spells(start, at, "push")) {
                if (hasRoom(rock.pushes, PUSHES, start)) readPush(rock);
            } else {
                refuse(CANNOT_STAND, start);
            }
        }

        boolean hasRoom(int many, int most, int start) {
            if (many >= most) refuse(TOO_MANY, start);
            return many < most;
        }

        void readTurning(Rock rock) {
            rock.addTurning();
            for (int v = 1; v <= PARTS && fault == 0; v++) {
                rock.addPart(readNumber(MOST_TOLD) - TOLD_ABOVE);
                passBlanks();
                int sign = text.byteAt(at);
                if (sign == ';' && v > 1) {
                    at++;
                    return;
                }
                if (sign == ',' && v < PARTS) at++;
                else refuse(CANNOT_STAND, at);
            }
        }

        void readPlace(Rock rock) {
            int a = readNumber(MOST_TOLD);
            int b = readNumber(MOST_TOLD);
            int c = readNumber(MOST_TOLD);
            readEnd();
            if (fault == 0) rock.addPlace(a - TOLD_ABOVE, b - TOLD_ABOVE, c - TOLD_ABOVE);
        }

        void readWay(Rock rock) {
            int p = readNumber(rock.places - 1);
            passBlanks();
            int start = at;
            int q = readNumber(rock.places - 1);
            if (p == q || rock.leads(p, q)) refuse(TWICE, start);
            readEnd();
            if (fault == 0) rock.addWay(p, q);
        }

        void readPush(Rock rock) {
            int a = readNumber(MOST_SHIFT);
            int b = readNumber(MOST_SHIFT);
            int c = readNumber(MOST_SHIFT);
            readEnd();
            if (fault == 0) rock.addPush(a, b, c);
        }

        int readNumber(int most) {
            passBlanks();
            int start = at, value = 0;
            while (at < text.length && text.isFigure(at)) {
                // more figures than may stand are a FAULT whatever they say, and must not grow beyond an int
                if (at - start < FIGURES) value = value * 10 + text.byteAt(at) - '0';
                at++;
            }
            if (at == start) refuse(CANNOT_STAND, start);
            else if (at - start > FIGURES || value > most) refuse(OUT_OF_BOUNDS, start);
            return value;
        }

        void readEnd() {
            passBlanks();
            if (text.byteAt(at) == ';') at++;
            else refuse(CANNOT_STAND, at);
        }
    }

    /**
     * THE ROCK as told. How its TURNINGS stand (and their SHIFTS) is one number, a STANDING,
     * in which TURNING 0 counts first: so STANDINGS that rise are rows in the order of FITS.
     */
    private static final class Rock {
        int turnings, places, ways, pushes, standings, period;
        final int[] sizes = new int[TURNINGS];
        final int[] weights = new int[TURNINGS];
        final int[] parts = new int[TURNINGS * PARTS];
        final int[] faces = new int[PLACES * TURNINGS];
        final int[] roads = new int[PLACES];
        final int[] shoves = new int[PUSHES * TURNINGS];
        /** By STANDING: the PLACES that are LIT, and the STANDING a step later; most calls walk along these. */
        final int[] lit = new int[STANDINGS];
        final int[] later = new int[STANDINGS];

        Rock() {
            clear();
            settle();
        }

        void clear() {
            turnings = 0;
            places = 0;
            ways = 0;
            pushes = 0;
            for (int i = 0; i < TURNINGS; i++) sizes[i] = 1;
            for (int p = 0; p < PLACES; p++) roads[p] = 0;
        }

        void addTurning() {
            put(sizes, turnings, 0);
            turnings++;
        }

        void addPart(int part) {
            int i = turnings - 1, many = size(i);
            if (many >= PARTS) return;
            put(parts, i * PARTS + many, part);
            put(sizes, i, many + 1);
        }

        void addPlace(int a, int b, int c) {
            put(faces, places * TURNINGS, a);
            put(faces, places * TURNINGS + 1, b);
            put(faces, places * TURNINGS + 2, c);
            places++;
        }

        void addWay(int p, int q) {
            put(roads, p, road(p) | 1 << q);
            put(roads, q, road(q) | 1 << p);
            ways++;
        }

        void addPush(int a, int b, int c) {
            put(shoves, pushes * TURNINGS, a);
            put(shoves, pushes * TURNINGS + 1, b);
            put(shoves, pushes * TURNINGS + 2, c);
            pushes++;
        }

        /** Makes the tables, once all is told. */
        void settle() {
            weights[2] = 1;
            weights[1] = sizes[2];
            weights[0] = sizes[1] * sizes[2];
            standings = sizes[0] * weights[0];
            period = leastPeriod();
            for (int s = 0; s < standings && s < STANDINGS; s++) {
                lit[s] = placesAboveNought(s);
                later[s] = moved(s, 1, 1, 1);
            }
        }

        int leastPeriod() {
            for (int k = 1; k < standings; k++) {
                if (leftOver(k, sizes[0]) == 0 && leftOver(k, sizes[1]) == 0 && leftOver(k, sizes[2]) == 0) return k;
            }
            return standings;
        }

        int placesAboveNought(int standing) {
            int set = 0;
            for (int p = 0; p < places; p++) {
                if (heightOf(p, standing) > 0) set |= 1 << p;
            }
            return set;
        }

        int size(int i) {
            return at(sizes, i);
        }

        int part(int i, int stands) {
            return at(parts, i * PARTS + stands);
        }

        int face(int p, int i) {
            return at(faces, p * TURNINGS + i);
        }

        int road(int p) {
            return at(roads, p);
        }

        int shove(int k, int i) {
            return at(shoves, k * TURNINGS + i);
        }

        boolean leads(int p, int q) {
            return bit(road(p), q) == 1;
        }

        int digit(int standing, int i) {
            int weight = at(weights, i);
            return weight < 1 ? 0 : leftOver(standing / weight, at(sizes, i));
        }

        int moved(int standing, int a, int b, int c) {
            return turned(standing, 0, a) + turned(standing, 1, b) + turned(standing, 2, c);
        }

        int turned(int standing, int i, int by) {
            int weight = at(weights, i);
            return weight < 1 ? 0 : leftOver(standing / weight + by, at(sizes, i)) * weight;
        }

        int knocked(int standing, int i, int k) {
            return moved(standing, i == 0 ? k : 0, i == 1 ? k : 0, i == 2 ? k : 0);
        }

        int pushed(int standing, int k) {
            return moved(standing, shove(k, 0), shove(k, 1), shove(k, 2));
        }

        /** The STANDING that a PUSH makes this one of. */
        int unpushed(int standing, int k) {
            return moved(standing, backBy(k, 0), backBy(k, 1), backBy(k, 2));
        }

        int backBy(int k, int i) {
            return PARTS * size(i) - shove(k, i);
        }

        int shiftedBy(int k) {
            int many = 0;
            for (int i = 0; i < turnings; i++) {
                if (leftOver(shove(k, i), size(i)) != 0) many++;
            }
            return many;
        }

        /** NONE where a TURNING cannot stand so; a TURNING that there is not stands as it may. */
        int standingOf(int a, int b, int c) {
            if (!canStand(0, a) || !canStand(1, b) || !canStand(2, c)) return NONE;
            return moved(0, a, b, c);
        }

        boolean canStand(int i, int stands) {
            return i >= turnings || stands < size(i);
        }

        int heightOf(int p, int standing) {
            int height = 0;
            for (int i = 0; i < turnings; i++) height += face(p, i) * part(i, digit(standing, i));
            return height;
        }

        int litSet(int standing) {
            return at(lit, standing);
        }

        int litBit(int p, int standing) {
            return bit(litSet(standing), p);
        }

        int stepLater(int standing) {
            return at(later, standing);
        }

        int stepsTillLit(int p, int standing) {
            int s = standing;
            for (int k = 0; k < period; k++) {
                if (litBit(p, s) == 1) return k;
                s = stepLater(s);
            }
            return NONE;
        }

        int stepsOfLight(int p, int standing) {
            int till = stepsTillLit(p, standing);
            if (till == NONE) return NONE;
            int s = moved(standing, till, till, till);
            for (int k = 0; k < period; k++) {
                if (litBit(p, s) == 0) return k;
                s = stepLater(s);
            }
            return period;
        }

        int litSteps(int p, int standing) {
            int many = 0, s = standing;
            for (int k = 0; k < period; k++) {
                many += litBit(p, s);
                s = stepLater(s);
            }
            return many;
        }

        /** Two PERIODS long, as the dark at the end of one goes on in the next. */
        int longestDark(int p, int standing) {
            int most = 0, dark = 0, s = standing;
            for (int k = 0; k < 2 * period; k++) {
                dark = litBit(p, s) == 1 ? 0 : dark + 1;
                most = Math.max(most, dark);
                s = stepLater(s);
            }
            return Math.min(most, period);
        }

        int stepsTillStanding(int standing, int wanted) {
            int s = standing;
            for (int k = 0; k < period; k++) {
                if (s == wanted) return k;
                s = stepLater(s);
            }
            return NONE;
        }

        int stepsTillCross(int p, int q, int standing) {
            int s = standing;
            for (int k = 0; k < period; k++) {
                boolean bothLit = litBit(p, s) == 1 && litBit(q, s) == 1;
                if (bothLit && heightOf(p, s) == heightOf(q, s)) return k;
                s = stepLater(s);
            }
            return NONE;
        }
    }

    /** What an IMAGE keeps: SHIFTS, THE FARM, STEP, LIGHT, THE SEED. */
    private static final class Farm {
        int shifts, where, step, light, seed;

        void begin() {
            shifts = 0;
            where = 0;
            step = 0;
            light = 0;
        }

        void become(Farm other) {
            shifts = other.shifts;
            where = other.where;
            step = other.step;
            light = other.light;
            seed = other.seed;
        }

        /** The end of a STEP, wherever the farm has gone: the LIGHT that it has of it. */
        int goOn(Rock rock) {
            step++;
            int lit = rock.litBit(where, rock.moved(shifts, step, step, step));
            light += lit;
            return lit;
        }

        int draw(int n) {
            seed = (int) (seed * 1103515245L + 12345L & 2147483647L);
            return leftOver(seed / 65536, n);
        }

        int goByDraws(Rock rock) {
            if (draw(DRAWS_PER_KNOCK) == 0) {
                int i = draw(rock.turnings);
                shifts = rock.knocked(shifts, i, draw(rock.size(i)));
            } else {
                goByDraw(rock.road(where));
            }
            return goOn(rock);
        }

        void goByDraw(int road) {
            if (road == 0) return;
            where = memberAt(road, draw(Integer.bitCount(road)));
        }
    }

    /** The BEST WAY and MAIL. */
    private static final class Route {
        /** By step and PLACE: the most LIGHT from there to the last step; by step: the PLACES that are LIT. */
        final int[] best = new int[(MOST_WAY_STEPS + 1) * PLACES];
        final int[] lit = new int[MOST_WAY_STEPS + 1];

        void weigh(Rock rock, int standing, int n) {
            int s = standing;
            for (int k = 0; k <= n; k++) {
                put(lit, k, rock.litSet(s));
                s = rock.stepLater(s);
            }
            for (int p = 0; p < PLACES; p++) put(best, n * PLACES + p, 0);
            for (int k = n - 1; k >= 0; k--) {
                for (int p = 0; p < rock.places; p++) put(best, k * PLACES + p, bestFrom(rock, k, p));
            }
        }

        int bestFrom(Rock rock, int k, int p) {
            int most = 0, reach = rock.road(p) | 1 << p;
            for (int q = 0; q < rock.places; q++) {
                if (bit(reach, q) == 1) most = Math.max(most, lightBy(k, q));
            }
            return most;
        }

        /** The most LIGHT behind step k for a farm that is at q a step later. */
        int lightBy(int k, int q) {
            return bit(at(lit, k + 1), q) + mostLight(k + 1, q);
        }

        int mostLight(int k, int p) {
            return at(best, k * PLACES + p);
        }

        int placeBehind(Rock rock, int p, int i) {
            int where = p;
            for (int k = 0; k < i; k++) where = leastGood(rock, k, where);
            return where;
        }

        int leastGood(Rock rock, int k, int p) {
            int reach = rock.road(p) | 1 << p;
            for (int q = 0; q < rock.places; q++) {
                if (bit(reach, q) == 1 && lightBy(k, q) == mostLight(k, p)) return q;
            }
            return p;
        }

        /** A shortest way is never twice at one PLACE with the TURNINGS alike: so it is below PLACES times PERIOD. */
        int fewestLitSteps(Rock rock, int p, int q, int standing) {
            int s = standing, reached = 1 << p & rock.litSet(s);
            for (int k = 0; k < PLACES * rock.period && reached != 0; k++) {
                if (bit(reached, q) == 1) return k;
                s = rock.stepLater(s);
                reached = spread(rock, reached) & rock.litSet(s);
            }
            return NONE;
        }

        int spread(Rock rock, int set) {
            int wider = set;
            for (int p = 0; p < rock.places; p++) {
                if (bit(set, p) == 1) wider |= rock.road(p);
            }
            return wider;
        }
    }

    /** What was SEEN, told by the SHIFTS that still FIT: those are all that later calls ask for. */
    private static final class Sight {
        int seen, fitting, lookPlace, lookStep, lookPart;
        boolean looked;
        final int[] fits = new int[STANDINGS];
        final int[] lit = new int[LOOK_STEPS * PLACES];

        Sight() {
            fitting = 1;
        }

        void forget(Rock rock) {
            seen = 0;
            looked = false;
            fitting = Math.min(rock.standings, STANDINGS);
            for (int i = 0; i < fitting; i++) put(fits, i, i);
        }

        int fitAt(int i) {
            return at(fits, i);
        }

        void narrow(Rock rock, int p, int step, boolean wasLit) {
            int wanted = wasLit ? 1 : 0, many = 0;
            for (int i = 0; i < fitting; i++) {
                int shifts = fitAt(i);
                if (rock.litBit(p, rock.moved(shifts, step, step, step)) != wanted) continue;
                put(fits, many, shifts);
                many++;
            }
            fitting = many;
            seen++;
            looked = false;
        }

        /** Looked for once only till something else is SEEN: it is the dearest of all calls. */
        void findLook(Rock rock) {
            if (looked) return;
            looked = true;
            lookPlace = NONE;
            lookStep = NONE;
            lookPart = NONE;
            countLit(rock);
            for (int step = 0; step < LOOK_STEPS; step++) {
                for (int p = 0; p < rock.places; p++) tryLook(step, p);
            }
        }

        void countLit(Rock rock) {
            for (int k = 0; k < lit.length; k++) lit[k] = 0;
            for (int i = 0; i < fitting; i++) {
                int s = fitAt(i);
                for (int step = 0; step < LOOK_STEPS; step++) {
                    addLit(step * PLACES, rock.litSet(s));
                    s = rock.stepLater(s);
                }
            }
        }

        void addLit(int from, int set) {
            for (int p = 0; p < PLACES; p++) {
                int i = from + p;
                if (i >= 0 && i < lit.length) lit[i] += set >> p & 1;
            }
        }

        void tryLook(int step, int p) {
            int some = at(lit, step * PLACES + p), greater = Math.max(some, fitting - some);
            if (greater == fitting || lookPart != NONE && greater >= lookPart) return;
            lookPart = greater;
            lookStep = step;
            lookPlace = p;
        }
    }

    /** The fewest PUSHES, counted backwards from the SHIFTS that are wanted. */
    private static final class Mender {
        final int[] far = new int[STANDINGS];
        final int[] queue = new int[STANDINGS];
        int queued;

        int fewest(Rock rock, int from, int wanted) {
            if (wanted == NONE) return NONE;
            for (int s = 0; s < STANDINGS; s++) far[s] = NONE;
            queued = 0;
            reach(wanted, 0);
            for (int k = 0; k < queued && k < STANDINGS; k++) {
                int s = queue[k];
                for (int push = 0; push < rock.pushes; push++) reach(rock.unpushed(s, push), at(far, s) + 1);
            }
            return at(far, from);
        }

        void reach(int standing, int pushes) {
            if (at(far, standing) != NONE) return;
            put(far, standing, pushes);
            put(queue, queued, standing);
            queued++;
        }

        /** Only behind fewest(): it goes down its counts, by the least PUSH each time. */
        int pushAt(Rock rock, int from, int i) {
            int s = from, push = NONE;
            for (int k = 0; k <= i; k++) {
                push = leastNearer(rock, s);
                s = rock.pushed(s, push);
            }
            return push;
        }

        int leastNearer(Rock rock, int standing) {
            for (int push = 0; push < rock.pushes; push++) {
                if (at(far, rock.pushed(standing, push)) == at(far, standing) - 1) return push;
            }
            return NONE;
        }
    }

    /** THE BOOK: where a farm was, STEP by STEP. */
    private static final class Book {
        final int[] rows = new int[BOOK_PLACES];
        int length;

        boolean add(int p) {
            if (length >= BOOK_PLACES) return false;
            put(rows, length, p);
            length++;
            return true;
        }

        int firstWrong(Rock rock) {
            for (int k = 1; k < length; k++) {
                int ahead = at(rows, k - 1), here = at(rows, k);
                if (ahead != here && !rock.leads(ahead, here)) return k;
            }
            return NONE;
        }

        int lightOf(Rock rock, int shifts) {
            int light = 0;
            for (int k = 0; k < length; k++) light += rock.litBit(at(rows, k), rock.moved(shifts, k, k, k));
            return light;
        }
    }
}
