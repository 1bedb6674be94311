import java.util.Arrays;

/** A city on three round platforms that turn, one in another, with gates on their rims. */
public final class ThreeRings {
    public static final int UNKNOWN = -1, BAD = -2, LATE = -3, FULL = -4, NONE = -9;

    private static final int RINGS = 3;
    private static final int MOST_GATES = 8;
    private static final int MOST_BYTES = 60;
    private static final int MOST_SEEN = 8;
    private static final int SECONDS = 300;
    private static final int MOST_PACE = 9;
    private static final int MOST_BRAKE = 99;
    private static final int MOST_PUMP_SECONDS = 99;
    private static final int FIRST_PARTS = 12;
    private static final int FOR_EVER = 999;

    /** Later than any second that a way can end at. */
    private static final int NEVER = 1000000;

    private final int[] text = new int[MOST_BYTES];
    private int textLength = 0;
    private final Reader reader = new Reader();
    private final Plan plan = new Plan();
    private final Motion now = new Motion();
    private final Motion trial = new Motion();
    private final Motion slot0 = new Motion();
    private final Motion slot1 = new Motion();
    private final Timetable table = new Timetable(plan);
    private final Ways ways = new Ways(plan, table);
    private final Guess guess = new Guess(plan);

    public ThreeRings() {
    }

    // ---- the city

    public int write(int n, long v) {
        if (n < 1 || n > 8) {
            return BAD;
        }
        if (textLength + n > MOST_BYTES) {
            return FULL;
        }
        for (int i = n - 1; i >= 0; i--) {
            text[textLength] = (int) (v >>> (8 * i)) & 255;
            textLength++;
        }
        return textLength;
    }

    public int wipe() {
        int was = textLength;
        textLength = 0;
        return was;
    }

    public int fault() {
        return reader.firstFault(text, textLength);
    }

    public int city() {
        if (reader.firstFault(text, textLength) != NONE) {
            return LATE;
        }
        plan.takeFrom(reader.draft);
        now.startWith(plan.firstPace);
        slot0.kept = false;
        slot1.kept = false;
        table.pairUp();
        return plan.gates;
    }

    public int about(int what) {
        switch (what) {
            case 0: return plan.parts;
            case 1: return plan.gates;
            case 2: return now.seen;
            case 3: return textLength;
            default: return BAD;
        }
    }

    public int gate(int gate, int what) {
        if (!plan.hasGate(gate)) {
            return UNKNOWN;
        }
        switch (what) {
            case 0: return plan.ring[gate];
            case 1: return plan.rim[gate];
            case 2: return plan.place[gate];
            case 3: return plan.kind[gate];
            default: return BAD;
        }
    }

    public int pace(int ring) {
        return isRing(ring) ? now.pace[ring] + 10 : UNKNOWN;
    }

    public int turn(int ring, int p) {
        if (!isRing(ring)) {
            return UNKNOWN;
        }
        if (p < -MOST_PACE || p > MOST_PACE) {
            return BAD;
        }
        int was = now.pace[ring];
        now.pace[ring] = p;
        return was + 10;
    }

    public int brake(int ring, int s, int d) {
        if (!isRing(ring)) {
            return UNKNOWN;
        }
        if (s < 0 || s > MOST_BRAKE || d < 0 || d > MOST_BRAKE) {
            return BAD;
        }
        int was = now.brakeLong[ring];
        now.setBrake(ring, s, d);
        return was;
    }

    public int dry(int k) {
        if (k < 0 || k > MOST_PACE) {
            return BAD;
        }
        int standing = 0;
        for (int r = 0; r < RINGS; r++) {
            now.slow(r, k);
            if (now.pace[r] == 0) {
                standing++;
            }
        }
        return standing;
    }

    // ---- joins

    public int where(int gate, int t) {
        if (!plan.hasGate(gate) || !isSecond(t)) {
            return UNKNOWN;
        }
        table.lay(now);
        return table.placeAt(gate, table.fold(t));
    }

    public int open(int gate, int other, int t) {
        if (!areGates(gate, other) || !isSecond(t)) {
            return UNKNOWN;
        }
        table.lay(now);
        return table.isOpen(table.joinOf(gate, other), t) ? 1 : 0;
    }

    public int next(int gate, int other, int t) {
        if (!areGates(gate, other) || !isSecond(t)) {
            return UNKNOWN;
        }
        table.lay(now);
        int wait = table.waitFor(table.joinOf(gate, other), t);
        return wait == NEVER ? NONE : t + wait;
    }

    public int stays(int gate, int other, int t) {
        if (!areGates(gate, other) || !isSecond(t)) {
            return UNKNOWN;
        }
        table.lay(now);
        int join = table.joinOf(gate, other);
        int horizon = table.horizonFrom(t);
        for (int k = 0; k < horizon; k++) {
            if (!table.isOpen(join, t + k)) {
                return k;
            }
        }
        return FOR_EVER;
    }

    public int share(int gate, int other, boolean upper) {
        if (!areGates(gate, other)) {
            return UNKNOWN;
        }
        trial.takeFrom(now);
        trial.clearBrakes();
        table.lay(trial);
        int join = table.joinOf(gate, other);
        int openSeconds = 0;
        for (int t = 0; t < plan.parts; t++) {
            if (table.isOpen(join, t)) {
                openSeconds++;
            }
        }
        int divisor = commonDivisor(openSeconds, plan.parts);
        return (upper ? openSeconds : plan.parts) / divisor;
    }

    public int meet(int gates, int t) {
        if (!isSecond(t)) {
            return UNKNOWN;
        }
        if (!plan.hasGates(gates) || Integer.bitCount(gates) < 2) {
            return BAD;
        }
        table.lay(now);
        int horizon = table.horizonFrom(t);
        for (int k = 0; k < horizon; k++) {
            if (table.atOnePlace(gates, t + k)) {
                return t + k;
            }
        }
        return NONE;
    }

    // ---- ways

    public int soonest(int gate, int t, int other) {
        if (!areGates(gate, other) || !isSecond(t)) {
            return UNKNOWN;
        }
        table.lay(now);
        ways.spread(gate, t);
        return orNone(ways.arrive[other]);
    }

    public int step(int gate, int t, int other, int i, int what) {
        if (!areGates(gate, other) || !isSecond(t)) {
            return UNKNOWN;
        }
        if (what < 0 || what > 1) {
            return BAD;
        }
        table.lay(now);
        ways.spread(gate, t);
        int at = ways.gateOfStep(gate, other, i);
        if (at < 0) {
            return NONE;
        }
        return what == 0 ? at : ways.arrive[at];
    }

    public int latest(int gate, int other, int by) {
        if (!areGates(gate, other) || !isSecond(by)) {
            return UNKNOWN;
        }
        table.lay(now);
        return ways.lastStart(gate, other, by);
    }

    public int round(int gate, int t, int stops) {
        if (!plan.hasGate(gate) || !isSecond(t)) {
            return UNKNOWN;
        }
        if (!plan.hasGates(stops)) {
            return BAD;
        }
        table.lay(now);
        return orNone(ways.endOfRound(gate, t, stops));
    }

    // ---- brakes, pumps

    public int bestBrake(int ring, int d, int gate, int t, int other) {
        int refusal = refuseBestBrake(ring, d, gate, t, other);
        return refusal != 0 ? refusal : bestBrakeStart(ring, d, gate, t, other);
    }

    public int harm(int ring, int d, int gate, int t, int other) {
        int refusal = refuseBestBrake(ring, d, gate, t, other);
        if (refusal != 0) {
            return refusal;
        }
        int start = bestBrakeStart(ring, d, gate, t, other);
        if (start == NONE) {
            return NONE;
        }
        table.lay(now);
        ways.rememberAll(t);
        layTrial(ring, start, d);
        return ways.countLater(t);
    }

    public int worst(int gate, int other) {
        if (!areGates(gate, other)) {
            return UNKNOWN;
        }
        table.lay(now);
        return orNone(ways.longest(gate, other));
    }

    public int pumps(int s) {
        if (s < 0 || s > MOST_PUMP_SECONDS) {
            return BAD;
        }
        if (plan.gates == 0) {
            return NONE;
        }
        table.lay(now);
        ways.collectPumpSets(s);
        return ways.fewestPumps();
    }

    // ---- seen

    public int see(int gate, int other, int t) {
        if (!areGates(gate, other) || !isSecond(t)) {
            return UNKNOWN;
        }
        if (plan.ring[gate] == plan.ring[other]) {
            return BAD;
        }
        if (now.seen >= MOST_SEEN) {
            return FULL;
        }
        now.addSeen(gate, other, t);
        return now.seen;
    }

    public int unsee() {
        int was = now.seen;
        now.seen = 0;
        return was;
    }

    public int rows() {
        guess.tryAll(now);
        return guess.fitting;
    }

    public int likely(int ring, boolean greatest) {
        if (!isRing(ring)) {
            return UNKNOWN;
        }
        guess.tryAll(now);
        if (guess.fitting == 0) {
            return NONE;
        }
        return (greatest ? guess.greatest[ring] : guess.least[ring]) + 10;
    }

    // ---- slots

    public int keep(int slot) {
        Motion into = slotAt(slot);
        if (into == null) {
            return UNKNOWN;
        }
        into.takeFrom(now);
        into.kept = true;
        return now.braked();
    }

    public int again(int slot) {
        Motion from = slotAt(slot);
        if (from == null) {
            return UNKNOWN;
        }
        if (!from.kept) {
            return LATE;
        }
        now.takeFrom(from);
        return now.braked();
    }

    // ---- what the calls share

    private static boolean isRing(int ring) {
        return ring >= 0 && ring < RINGS;
    }

    private static boolean isSecond(int t) {
        return t >= 0 && t < SECONDS;
    }

    private Motion slotAt(int slot) {
        if (slot == 0) {
            return slot0;
        }
        return slot == 1 ? slot1 : null;
    }

    private boolean areGates(int gate, int other) {
        return plan.hasGate(gate) && plan.hasGate(other);
    }

    private static int orNone(int second) {
        return second >= NEVER ? NONE : second;
    }

    /** The greatest number that goes into both; 1 at least, so that it can divide. */
    private static int commonDivisor(int a, int b) {
        for (int n = Math.max(a, b); n > 1; n--) {
            if (a % n == 0 && b % n == 0) {
                return n;
            }
        }
        return 1;
    }

    private int refuseBestBrake(int ring, int d, int gate, int t, int other) {
        if (!isRing(ring) || !areGates(gate, other) || !isSecond(t)) {
            return UNKNOWN;
        }
        return d < 1 || d > MOST_BRAKE ? BAD : 0;
    }

    private void layTrial(int ring, int s, int d) {
        trial.takeFrom(now);
        trial.setBrake(ring, s, d);
        table.lay(trial);
    }

    private int bestBrakeStart(int ring, int d, int gate, int t, int other) {
        int best = NEVER;
        int start = NONE;
        for (int s = t; s < t + plan.parts; s++) {
            layTrial(ring, s, d);
            ways.spread(gate, t);
            int end = ways.arrive[other];
            if (end < best) {
                best = end;
                start = s;
            }
            if (end <= s) {
                // One is there before the brake does anything: every later brake leaves it so.
                break;
            }
        }
        return start;
    }

    /** The city as it is told. */
    private static final class Plan {
        int parts = FIRST_PARTS;
        int gates = 0;
        final int[] ring = new int[MOST_GATES];
        final int[] rim = new int[MOST_GATES];
        final int[] place = new int[MOST_GATES];
        final int[] kind = new int[MOST_GATES];
        final int[] firstPace = new int[RINGS];

        void clear() {
            parts = FIRST_PARTS;
            gates = 0;
            Arrays.fill(firstPace, 0);
        }

        void takeFrom(Plan other) {
            parts = other.parts;
            gates = other.gates;
            System.arraycopy(other.ring, 0, ring, 0, MOST_GATES);
            System.arraycopy(other.rim, 0, rim, 0, MOST_GATES);
            System.arraycopy(other.place, 0, place, 0, MOST_GATES);
            System.arraycopy(other.kind, 0, kind, 0, MOST_GATES);
            System.arraycopy(other.firstPace, 0, firstPace, 0, RINGS);
        }

        boolean hasGate(int gate) {
            return gate >= 0 && gate < gates;
        }

        boolean hasGates(int bits) {
            return bits >= 0 && bits < 1 << gates;
        }

        int wrap(int n) {
            return parts < 1 ? 0 : Math.floorMod(n, parts);
        }

        /** Seconds from one gate of a ring to another one of it. */
        int walk(int a, int b) {
            int apart = Math.abs(place[a] - place[b]);
            return Math.max(1, Math.min(apart, parts - apart));
        }
    }

    /** Reads a text byte by byte for as long as it can become a city. */
    private static final class Reader {
        final Plan draft = new Plan();
        private int letter = 0;
        private int figures = 0;
        private boolean partsTold = false;
        private int ringsTold = 0;
        private int ring = 0;
        private int rim = 0;
        private int place = 0;

        int firstFault(int[] bytes, int length) {
            draft.clear();
            letter = 0;
            partsTold = false;
            ringsTold = 0;
            for (int i = 0; i < length && i < bytes.length; i++) {
                if (!takes(bytes[i])) {
                    return i;
                }
            }
            return partsTold && letter == 0 ? NONE : length;
        }

        private boolean takes(int sign) {
            if (letter == 0) {
                return takesLetter(sign);
            }
            int figure = sign - '0';
            if (figure < 0 || figure > 9) {
                return false;
            }
            figures++;
            if (letter == 'U') {
                return takesParts(figure);
            }
            return letter == 'G' ? takesGate(figure) : takesPace(figure);
        }

        private boolean takesLetter(int sign) {
            letter = sign;
            figures = 0;
            if (!partsTold) {
                return sign == 'U';
            }
            if (sign == 'R' || sign == 'r') {
                return ringsTold != (1 << RINGS) - 1;
            }
            return sign == 'G' && draft.gates < MOST_GATES;
        }

        private boolean takesParts(int figure) {
            draft.parts = 6 * figure;
            partsTold = true;
            letter = 0;
            return figure >= 2;
        }

        private boolean takesPace(int figure) {
            if (figures == 1) {
                ring = figure;
                return isRing(figure) && (ringsTold >> figure & 1) == 0;
            }
            if (isRing(ring)) {
                draft.firstPace[ring] = letter == 'r' ? -figure : figure;
                ringsTold |= 1 << ring;
            }
            letter = 0;
            return true;
        }

        private boolean takesGate(int figure) {
            switch (figures) {
                case 1:
                    ring = figure;
                    return isRing(figure);
                case 2:
                    rim = figure;
                    return figure == 0 ? ring < RINGS - 1 : figure == 1 && ring > 0;
                case 3:
                    place = 10 * figure;
                    return place < draft.parts;
                case 4:
                    place += figure;
                    return place < draft.parts;
                default:
                    letter = 0;
                    return figure <= 4 && addsGate(figure);
            }
        }

        private boolean addsGate(int kind) {
            int gate = draft.gates;
            if (gate < 0 || gate >= MOST_GATES) {
                return false;
            }
            draft.ring[gate] = ring;
            draft.rim[gate] = rim;
            draft.place[gate] = place;
            draft.kind[gate] = kind;
            draft.gates++;
            return true;
        }
    }

    /** All that a slot keeps: paces, brakes, what is seen. */
    private static final class Motion {
        final int[] pace = new int[RINGS];
        final int[] brakeFrom = new int[RINGS];
        final int[] brakeLong = new int[RINGS];
        final int[] seenGate = new int[MOST_SEEN];
        final int[] seenOther = new int[MOST_SEEN];
        final int[] seenAt = new int[MOST_SEEN];
        int seen = 0;
        /** Of a slot: whether anything is in it. */
        boolean kept = false;

        void startWith(int[] paces) {
            for (int r = 0; r < RINGS && r < paces.length; r++) {
                pace[r] = paces[r];
            }
            clearBrakes();
            seen = 0;
        }

        void takeFrom(Motion other) {
            System.arraycopy(other.pace, 0, pace, 0, RINGS);
            System.arraycopy(other.brakeFrom, 0, brakeFrom, 0, RINGS);
            System.arraycopy(other.brakeLong, 0, brakeLong, 0, RINGS);
            System.arraycopy(other.seenGate, 0, seenGate, 0, MOST_SEEN);
            System.arraycopy(other.seenOther, 0, seenOther, 0, MOST_SEEN);
            System.arraycopy(other.seenAt, 0, seenAt, 0, MOST_SEEN);
            seen = other.seen;
        }

        void clearBrakes() {
            Arrays.fill(brakeFrom, 0);
            Arrays.fill(brakeLong, 0);
        }

        void setBrake(int ring, int s, int d) {
            brakeFrom[ring] = s;
            brakeLong[ring] = d;
        }

        void slow(int ring, int k) {
            int p = pace[ring];
            pace[ring] = p > 0 ? Math.max(0, p - k) : Math.min(0, p + k);
        }

        int braked() {
            int count = 0;
            for (int r = 0; r < RINGS; r++) {
                if (brakeLong[r] > 0) {
                    count++;
                }
            }
            return count;
        }

        void addSeen(int gate, int other, int t) {
            if (seen < 0 || seen >= MOST_SEEN) {
                return;
            }
            seenGate[seen] = gate;
            seenOther[seen] = other;
            seenAt[seen] = t;
            seen++;
        }
    }

    /** Where the rings stand second by second, and how long each join is waited for. */
    private static final class Timetable {
        /** The latest end of a brake on trial (299 + 53 + 99), and a turn of 54 seconds. */
        private static final int SPAN = 505;
        /** Four gates against four others: eight gates make no more pairs. */
        private static final int MOST_PAIRS = 16;
        /** A remembered wait is told in the low bits, the laying that it is of above them. */
        private static final int WAIT_BITS = 10;
        private static final int WAIT_NEVER = (1 << WAIT_BITS) - 1;

        private final Plan plan;
        private final int[] turned = new int[RINGS * SPAN];
        private final int[] pairOf = new int[MOST_GATES * MOST_GATES];
        /** Of each pair how far the outer gate may be from the inner one, to either side. */
        private final int[] slack = new int[MOST_PAIRS];
        /** Of each pair how far the outer gate is ahead of the first place that will do; how much more in odd seconds. */
        private final int[] ahead = new int[MOST_PAIRS];
        private final int[] oddAhead = new int[MOST_PAIRS];
        private final boolean[] onlyThirds = new boolean[MOST_PAIRS];
        private final int[] outerRing = new int[MOST_PAIRS];
        private final int[] waits = new int[MOST_PAIRS * SPAN];
        private int pairs = 0;
        private int laying = 0;
        private int steady = 0;
        private int span = FIRST_PARTS;

        Timetable(Plan plan) {
            this.plan = plan;
        }

        /** Numbers the pairs of gates that can ever be opposite. */
        void pairUp() {
            Arrays.fill(pairOf, -1);
            pairs = 0;
            for (int a = 0; a < plan.gates; a++) {
                for (int b = 0; b < plan.gates; b++) {
                    boolean facing = plan.ring[a] + 1 == plan.ring[b] && plan.rim[a] == 0 && plan.rim[b] == 1;
                    if (facing && pairs < MOST_PAIRS) {
                        addPair(a, b);
                    }
                }
            }
        }

        private void addPair(int outer, int inner) {
            pairOf[MOST_GATES * outer + inner] = pairs;
            pairOf[MOST_GATES * inner + outer] = pairs;
            slack[pairs] = plan.kind[outer] == 1 || plan.kind[inner] == 1 ? 1 : 0;
            ahead[pairs] = plan.wrap(plan.place[outer] - plan.place[inner] + slack[pairs]);
            oddAhead[pairs] = (plan.kind[outer] == 3 ? 1 : 0) - (plan.kind[inner] == 3 ? 1 : 0);
            onlyThirds[pairs] = plan.kind[outer] == 4 || plan.kind[inner] == 4;
            outerRing[pairs] = plan.ring[outer];
            pairs++;
        }

        /** Works out where the rings stand until all comes again turn by turn. */
        void lay(Motion motion) {
            steady = 0;
            for (int r = 0; r < RINGS; r++) {
                if (motion.brakeLong[r] > 0) {
                    steady = Math.max(steady, motion.brakeFrom[r] + motion.brakeLong[r]);
                }
            }
            span = Math.min(SPAN, steady + plan.parts);
            laying++;
            for (int r = 0; r < RINGS; r++) {
                layRing(r, plan.wrap(motion.pace[r]), motion.brakeFrom[r], motion.brakeLong[r]);
            }
        }

        private void layRing(int ring, int pace, int from, int seconds) {
            int at = 0;
            for (int t = 0; t < span; t++) {
                turned[SPAN * ring + t] = at;
                if (t < from || t >= from + seconds) {
                    at += pace;
                    if (at >= plan.parts) {
                        at -= plan.parts;
                    }
                }
            }
        }

        /** The second of the table that is like second t: of one turn's length, KINDS 3 and 4 come again too. */
        int fold(int t) {
            int period = span - steady;
            if (t < span || period < 1) {
                return Math.max(0, Math.min(t, span - 1));
            }
            return steady + (t - steady) % period;
        }

        /** How many seconds from t on show all that ever comes. */
        int horizonFrom(int t) {
            return Math.max(0, steady - t) + plan.parts;
        }

        /** Where a gate is at a second of the table. */
        int placeAt(int gate, int i) {
            int shift = plan.kind[gate] == 3 ? i & 1 : 0;
            return plan.wrap(plan.place[gate] + turned[SPAN * plan.ring[gate] + i] + shift);
        }

        boolean atOnePlace(int gates, int t) {
            int i = fold(t);
            int place = -1;
            for (int g = 0; g < plan.gates; g++) {
                if ((gates >> g & 1) != 0) {
                    int here = placeAt(g, i);
                    if (place >= 0 && here != place) {
                        return false;
                    }
                    place = here;
                }
            }
            return true;
        }

        /** The pair of two gates; -1 if one can never go through from the first to the second. */
        int joinOf(int from, int to) {
            if (!plan.hasGate(from) || !plan.hasGate(to)) {
                return -1;
            }
            boolean outwards = plan.ring[to] < plan.ring[from];
            if (outwards && (plan.kind[from] == 2 || plan.kind[to] == 2)) {
                return -1;
            }
            return pairOf[MOST_GATES * from + to];
        }

        boolean isOpen(int join, int t) {
            return isPair(join) && openAt(join, fold(t));
        }

        private boolean isPair(int join) {
            return join >= 0 && join < pairs;
        }

        private boolean openAt(int join, int i) {
            if (onlyThirds[join] && i % 3 != 0) {
                return false;
            }
            int outer = SPAN * outerRing[join] + i;
            int far = ahead[join] + turned[outer] - turned[outer + SPAN];
            if ((i & 1) != 0) {
                far += oddAhead[join];
            }
            // From a turn behind to just short of two turns ahead: one turn set right is enough.
            if (far < 0) {
                far += plan.parts;
            } else if (far >= plan.parts) {
                far -= plan.parts;
            }
            return far <= 2 * slack[join];
        }

        /** How many seconds from t on one waits until the join is open; NEVER. */
        int waitFor(int join, int t) {
            if (!isPair(join)) {
                return NEVER;
            }
            int first = fold(t);
            int horizon = horizonFrom(first);
            int rest = NEVER;
            int passed = 0;
            int i = first;
            for (; passed < horizon; passed++) {
                int told = waits[SPAN * join + i];
                if (told >> WAIT_BITS == laying) {
                    rest = told & WAIT_NEVER;
                    break;
                }
                if (openAt(join, i)) {
                    rest = 0;
                    break;
                }
                i = i + 1 < span ? i + 1 : steady;
            }
            if (rest >= WAIT_NEVER) {
                rest = NEVER;
            }
            rememberWaits(join, first, passed, rest);
            return rest == NEVER ? NEVER : passed + rest;
        }

        /** The seconds passed in a search all wait for the same opening: none of them is searched again. */
        private void rememberWaits(int join, int first, int passed, int rest) {
            int i = first;
            for (int k = 0; k < passed; k++) {
                int wait = rest == NEVER ? WAIT_NEVER : passed - k + rest;
                waits[SPAN * join + i] = laying << WAIT_BITS | wait;
                i = i + 1 < span ? i + 1 : steady;
            }
        }
    }

    /** The ways through the rings as the timetable has them. */
    private static final class Ways {
        private final Plan plan;
        private final Timetable table;
        /** The soonest second at each gate, from where it was last spread. */
        final int[] arrive = new int[MOST_GATES];
        private final int[] before = new int[MOST_GATES * MOST_GATES];
        private final int[] soonestWith = new int[MOST_GATES << MOST_GATES];
        private final int[] pumpSets = new int[1 << MOST_GATES];
        private int pumpSetCount = 0;

        Ways(Plan plan, Timetable table) {
            this.plan = plan;
            this.table = table;
        }

        /** Finds the soonest second at each gate for one who is at a gate at t. */
        void spread(int from, int t) {
            Arrays.fill(arrive, NEVER);
            arrive[from] = t;
            int left = (1 << plan.gates) - 1;
            for (int n = 0; n < plan.gates; n++) {
                int gate = soonestOf(left);
                if (gate < 0) {
                    return;
                }
                left &= ~(1 << gate);
                for (int to = 0; to < plan.gates; to++) {
                    if ((left >> to & 1) != 0) {
                        arrive[to] = Math.min(arrive[to], reach(gate, to, arrive[gate]));
                    }
                }
            }
        }

        private int soonestOf(int left) {
            int found = -1;
            int best = NEVER;
            for (int g = 0; g < plan.gates; g++) {
                if ((left >> g & 1) != 0 && arrive[g] < best) {
                    best = arrive[g];
                    found = g;
                }
            }
            return found;
        }

        /** When one who leaves a gate at t is at another one without a gate between; NEVER. */
        private int reach(int from, int to, int t) {
            if (plan.ring[from] == plan.ring[to]) {
                return t + plan.walk(from, to);
            }
            int wait = table.waitFor(table.joinOf(from, to), t);
            return wait == NEVER ? NEVER : t + wait + 1;
        }

        /** The gate of a step of the way last spread; -1: there is no such step. */
        int gateOfStep(int from, int to, int step) {
            int length = stepsTo(from, to);
            if (step < 0 || step > length) {
                return -1;
            }
            int gate = to;
            for (int n = length; n > step; n--) {
                gate = gateAhead(gate);
                if (gate < 0) {
                    return -1;
                }
            }
            return gate;
        }

        /** How many steps there are behind the first gate; -1: there is no way. */
        private int stepsTo(int from, int to) {
            if (arrive[to] >= NEVER) {
                return -1;
            }
            int gate = to;
            for (int n = 0; n < MOST_GATES; n++) {
                if (gate == from) {
                    return n;
                }
                gate = gateAhead(gate);
                if (gate < 0) {
                    return -1;
                }
            }
            return -1;
        }

        private int gateAhead(int gate) {
            for (int g = 0; g < plan.gates; g++) {
                if (g != gate && arrive[g] < arrive[gate] && reach(g, gate, arrive[g]) == arrive[gate]) {
                    return g;
                }
            }
            return -1;
        }

        /** Who starts later is never sooner there, so that the last start can be found by halving. */
        int lastStart(int from, int to, int by) {
            int good = NONE;
            int low = 0;
            int high = by;
            for (int n = 0; n < SECONDS && low <= high; n++) {
                int middle = (low + high) / 2;
                spread(from, middle);
                if (arrive[to] <= by) {
                    good = middle;
                    low = middle + 1;
                } else {
                    high = middle - 1;
                }
            }
            return good;
        }

        /** Sets of stops that were made, each with the gate of the last one, grow by a stop at a time. */
        int endOfRound(int gate, int t, int stops) {
            int all = stops & ~(1 << gate);
            Arrays.fill(soonestWith, NEVER);
            soonestWith[gate] = t;
            for (int made = 0; made < all; made++) {
                if ((made & ~all) == 0) {
                    addStops(made, all);
                }
            }
            int end = NEVER;
            for (int last = 0; last < plan.gates; last++) {
                int at = soonestWith[MOST_GATES * all + last];
                if (at < NEVER) {
                    spread(last, at);
                    end = Math.min(end, arrive[gate]);
                }
            }
            return end;
        }

        private void addStops(int made, int all) {
            for (int last = 0; last < plan.gates; last++) {
                int at = soonestWith[MOST_GATES * made + last];
                if (at >= NEVER) {
                    continue;
                }
                spread(last, at);
                for (int stop = 0; stop < plan.gates; stop++) {
                    if (((all & ~made) >> stop & 1) != 0) {
                        int state = MOST_GATES * (made | 1 << stop) + stop;
                        soonestWith[state] = Math.min(soonestWith[state], arrive[stop]);
                    }
                }
            }
        }

        /** The most seconds that a way takes from any second of the first turn; NEVER. */
        int longest(int from, int to) {
            int most = 0;
            for (int t = 0; t < plan.parts; t++) {
                spread(from, t);
                if (arrive[to] >= NEVER) {
                    return NEVER;
                }
                most = Math.max(most, arrive[to] - t);
            }
            return most;
        }

        void rememberAll(int t) {
            for (int from = 0; from < plan.gates; from++) {
                spread(from, t);
                for (int to = 0; to < plan.gates; to++) {
                    before[MOST_GATES * from + to] = arrive[to];
                }
            }
        }

        /** How many ways are later than they were remembered. */
        int countLater(int t) {
            int later = 0;
            for (int from = 0; from < plan.gates; from++) {
                spread(from, t);
                for (int to = 0; to < plan.gates; to++) {
                    if (arrive[to] > before[MOST_GATES * from + to]) {
                        later++;
                    }
                }
            }
            return later;
        }

        int fewestPumps() {
            int best = NONE;
            int fewest = MOST_GATES + 1;
            for (int set = 1; set < 1 << plan.gates; set++) {
                if (Integer.bitCount(set) < fewest && servesAll(set)) {
                    best = set;
                    fewest = Integer.bitCount(set);
                }
            }
            return best;
        }

        /** For each second and gate the set of the gates that reach it in time: one of them must be a pump. */
        void collectPumpSets(int seconds) {
            pumpSetCount = 0;
            for (int t = 0; t < plan.parts; t++) {
                rememberAll(t);
                for (int to = 0; to < plan.gates; to++) {
                    addPumpSet(gatesInTime(to, t + seconds));
                }
            }
        }

        private int gatesInTime(int to, int by) {
            int set = 0;
            for (int from = 0; from < plan.gates; from++) {
                if (before[MOST_GATES * from + to] <= by) {
                    set |= 1 << from;
                }
            }
            return set;
        }

        private void addPumpSet(int set) {
            for (int i = 0; i < pumpSetCount; i++) {
                if (pumpSets[i] == set) {
                    return;
                }
            }
            if (pumpSetCount < pumpSets.length) {
                pumpSets[pumpSetCount] = set;
                pumpSetCount++;
            }
        }

        private boolean servesAll(int set) {
            for (int i = 0; i < pumpSetCount; i++) {
                if ((pumpSets[i] & set) == 0) {
                    return false;
                }
            }
            return true;
        }
    }

    /** Which paces fit all that is seen. */
    private static final class Guess {
        private static final int MOST_APART = 2 * MOST_PACE;

        private final Plan plan;
        /** For each two rings (the outer one first) the differences of their paces that fit, as bits. */
        private final long[] differences = new long[RINGS * RINGS];
        final int[] least = new int[RINGS];
        final int[] greatest = new int[RINGS];
        int fitting = 0;

        Guess(Plan plan) {
            this.plan = plan;
        }

        void tryAll(Motion motion) {
            Arrays.fill(differences, -1L);
            for (int i = 0; i < motion.seen && i < MOST_SEEN; i++) {
                ruleOut(motion.seenGate[i], motion.seenOther[i], motion.seenAt[i]);
            }
            fitting = 0;
            Arrays.fill(least, MOST_PACE);
            Arrays.fill(greatest, -MOST_PACE);
            for (int p = -MOST_PACE; p <= MOST_PACE; p++) {
                for (int q = -MOST_PACE; q <= MOST_PACE; q++) {
                    if (fits(0, 1, p - q)) {
                        tryInmost(p, q);
                    }
                }
            }
        }

        private void tryInmost(int p, int q) {
            for (int s = -MOST_PACE; s <= MOST_PACE; s++) {
                if (fits(0, 2, p - s) && fits(1, 2, q - s)) {
                    fitting++;
                    widen(0, p);
                    widen(1, q);
                    widen(2, s);
                }
            }
        }

        private void widen(int ring, int pace) {
            least[ring] = Math.min(least[ring], pace);
            greatest[ring] = Math.max(greatest[ring], pace);
        }

        private boolean fits(int outer, int inner, int difference) {
            return (differences[RINGS * outer + inner] >> MOST_APART + difference & 1L) != 0L;
        }

        private void ruleOut(int gate, int other, int t) {
            boolean inOrder = plan.ring[gate] < plan.ring[other];
            int a = inOrder ? gate : other;
            int b = inOrder ? other : gate;
            for (int d = -MOST_APART; d <= MOST_APART; d++) {
                if (plan.wrap(plan.place[a] - plan.place[b] + d * t) != 0) {
                    differences[RINGS * plan.ring[a] + plan.ring[b]] &= ~(1L << MOST_APART + d);
                }
            }
        }
    }
}
