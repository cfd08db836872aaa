import java.util.Arrays;

/**
 * An evening's talk on whether a rocket may go up in the cold. The words in capitals are those of the
 * document; every call answers, none throws.
 */
public final class ColdRing {
    public static final int NONE = -1;

    private static final int NOTHING = -1000;
    private static final int BAD_NUMBER = -1;
    private static final int NO_SUCH = -2;
    private static final int NO_ROOM = -5;
    private static final int BAD_TEXT = -6;

    private static final int MOST_FLIGHTS = 24;
    private static final int MOST_RINGS = 6;
    private static final int LEAST_WARMTH = -40;
    private static final int MOST_WARMTH = 120;
    private static final int MOST_PRESS = 9;
    private static final int MOST_SCORCH = 9;
    private static final int MOST_TENTHS = 600;
    private static final int MOST_POINTS = 12;
    private static final int MOST_TEXTS = 10;
    private static final int MOST_TIMES = 1_000_000;
    private static final int MOST_TALKERS = 12;
    private static final int MOST_SHEETS = 12;
    private static final int MOST_DOUBT = 100;
    private static final int MOST_WORLDS = 60;
    private static final int MOST_SEED = 1_000_000;

    private static final int TERMS = 4;
    private static final int TENTHS = 0;
    private static final int NEED = 1;
    private static final int HURRY = 2;
    private static final int MARGIN = 3;

    private static final int HEAD_ODDS = 0;
    private static final int HEAD_MOVE = 1;
    private static final int HEAD_KEY = 2;
    private static final int HEAD_STOP = 3;

    private static final int WORD_WARMTH = 0;
    private static final int WORD_PRESS = 1;
    private static final int WORD_RING = 2;
    private static final int WORD_WORST = 3;
    private static final int WORD_RANK = 4;
    private static final int WORD_ROOM = 5;
    private static final int WORD_SIDE = 6;
    private static final int WORD_DOUBT = 7;
    private static final int WORD_PROOF = 8;
    private static final int WORD_KIND = 9;
    private static final int WORD_WEIGHT = 10;
    private static final int WORD_MINUTE = 11;
    private static final int WORDS = 12;

    private static final int OP_NUMBER = 0;
    private static final int OP_WORD = 1;
    private static final int OP_ADD = 2;
    private static final int OP_SUBTRACT = 3;
    private static final int OP_MULTIPLY = 4;
    private static final int OP_DIVIDE = 5;
    private static final int OP_LESS = 6;
    private static final int OP_GREATER = 7;
    private static final int OP_SAME = 8;
    private static final int OP_FLIP = 9;
    private static final int OP_SKIP_IF_SO = 10;
    private static final int OP_SKIP_IF_NOT = 11;

    private final State now = new State();
    private final State[] images = {new State(), new State()};
    private final boolean[] kept = new boolean[2];
    private final Reader reader = new Reader();
    private final Asker asker = new Asker();
    private final Picture sight = new Picture(now.fleet, asker);
    private final Ways ways = new Ways(now.fleet);
    private final Talks talks = new Talks(now, asker);
    private final Natural[] product = {new Natural(), new Natural(), new Natural()};
    private final int[] refusals = new int[5];
    private int lastRefusal = 0;
    private int faultPlace = NONE;

    public ColdRing() {
    }

    public int flight(int warmth, int press, int rings) {
        if (!isWarmth(warmth) || !isHull(press, rings)) {
            return refuse(BAD_NUMBER);
        }
        if (now.fleet.size >= MOST_FLIGHTS) {
            return refuse(NO_ROOM);
        }
        return granted(now.fleet.add(warmth, press, rings, 0));
    }

    public int ring(int flight, int ring, int scorch) {
        if (!within(scorch, NONE, MOST_SCORCH)) {
            return refuse(BAD_NUMBER);
        }
        if (!now.fleet.has(flight) || !within(ring, 0, now.fleet.rings[flight] - 1)) {
            return refuse(NO_SUCH);
        }
        int at = flight * MOST_RINGS + ring;
        int was = now.fleet.scorch[at];
        now.fleet.scorch[at] = scorch;
        return granted(was);
    }

    public int of(int flight, int what) {
        Fleet fleet = now.fleet;
        if (!fleet.has(flight)) {
            return NOTHING;
        }
        switch (what) {
            case 0: return fleet.warmth[flight];
            case 1: return fleet.press[flight];
            case 2: return fleet.rings[flight];
            case 3: return Math.max(0, fleet.worst(flight));
            case 4: return fleet.isScorched(flight) ? 1 : 0;
            case 5: return fleet.isKnown(flight) ? 0 : 1;
            default: return NOTHING;
        }
    }

    public int terms(int what, int value) {
        if (!within(what, 0, TERMS - 1) || !within(value, leastOfTerm(what), mostOfTerm(what))) {
            return refuse(BAD_NUMBER);
        }
        int was = now.term[what];
        now.term[what] = value;
        return granted(was);
    }

    public int feed(int a, int b, int c, int d, int e) {
        if (!reader.takes(20)) {
            return NONE;
        }
        reader.append(a);
        reader.append(b);
        reader.append(c);
        reader.append(d);
        reader.append(e);
        return reader.length;
    }

    public int end(int n) {
        if (!within(n, 0, reader.length)) {
            return NONE;
        }
        reader.length = n;
        return n;
    }

    public int row(int press, int rings) {
        if (!isHull(press, rings)) {
            return refuse(BAD_NUMBER);
        }
        int bytes = reader.length;
        reader.length = 0;
        if (now.fleet.size + (bytes + 1) / 2 > MOST_FLIGHTS) {
            return refuse(NO_ROOM);
        }
        if (bytes == 0) {
            return refuse(BAD_TEXT);
        }
        int lost = 0;
        for (int at = 0; at < bytes; at += 2) {
            int warmth = at + 1 < bytes ? reader.shortAt(at) : NOTHING;
            if (isWarmth(warmth)) {
                now.fleet.add(warmth, press, rings, 0);
            } else {
                now.fleet.add(0, press, rings, NONE);
                lost++;
            }
        }
        return granted(lost);
    }

    public int text() {
        int bytes = reader.length;
        reader.length = 0;
        if (now.textCount >= MOST_TEXTS) {
            return refuse(NO_ROOM);
        }
        Text law = reader.read(bytes);
        if (law == null) {
            faultPlace = reader.tokenAt;
            return refuse(BAD_TEXT);
        }
        faultPlace = NONE;
        now.texts[now.textCount] = law;
        now.textCount++;
        return granted(now.textCount - 1);
    }

    public int fault() {
        return faultPlace;
    }

    public int odds(int text, int warmth, int press, int ring) {
        Text law = now.lawAt(text);
        if (law == null || !isWarmth(warmth) || !within(press, 0, MOST_PRESS)
                || !within(ring, 0, MOST_RINGS - 1)) {
            return NONE;
        }
        return oddsBy(law, warmth, press, ring);
    }

    public int times(int text, int other, int which) {
        Text law = now.lawAt(text);
        Text against = now.lawAt(other);
        if (law == null || against == null || !isFlag(which)) {
            return NONE;
        }
        multiplyChances(law, which, product[0]);
        multiplyChances(against, which, product[1]);
        return timesAsGreat(product[0], product[1], product[2]);
    }

    public int likely(int which) {
        if (!isFlag(which)) {
            return NONE;
        }
        int first = NONE;
        int greatest = 0;
        for (int i = 0; i < now.textCount; i++) {
            int other = 1 - greatest;
            Text law = now.lawAt(i);
            if (law == null) {
                return NONE;
            }
            multiplyChances(law, which, product[other]);
            if (first == NONE || product[other].compareWith(product[greatest]) > 0) {
                first = i;
                greatest = other;
            }
        }
        return first;
    }

    public long cold(int text, int warmth, int press, int rings, int part) {
        Text law = now.lawAt(text);
        if (law == null || !isWarmth(warmth) || !isHull(press, rings) || !isFlag(part)) {
            return NONE;
        }
        long all = 1;
        long unharmed = 1;
        for (int r = 0; r < rings; r++) {
            all *= 100;
            unharmed *= 100 - oddsBy(law, warmth, press, r);
        }
        long shared = commonDivisor(all, all - unharmed);
        if (shared <= 0) {
            return NONE;
        }
        return (part == 0 ? all - unharmed : all) / shared;
    }

    public int says(int which, int part) {
        if (!isFlag(which) || !isFlag(part)) {
            return NONE;
        }
        return part == 0 ? ways.notAbove(which) : ways.inAll(which);
    }

    public int point(int warmth, int tenths) {
        if (!isWarmth(warmth) || !within(tenths, 0, MOST_TENTHS)) {
            return refuse(BAD_NUMBER);
        }
        if (!now.bench.put(warmth, tenths)) {
            return refuse(NO_ROOM);
        }
        return granted(now.bench.size);
    }

    public int tenths(int warmth, int what) {
        if (!isFlag(what) || !now.bench.tellsSpan(warmth)) {
            return NONE;
        }
        return what == 0 ? now.bench.least : now.bench.most;
    }

    public int late(int warmth) {
        if (!isWarmth(warmth)) {
            return NONE;
        }
        if (!now.bench.tellsSpan(warmth)) {
            return 3;
        }
        if (now.bench.most <= now.term[TENTHS]) {
            return 0;
        }
        return now.bench.least <= now.term[TENTHS] ? 1 : 2;
    }

    public int beyond(int warmth) {
        if (!isWarmth(warmth)) {
            return NONE;
        }
        int least = MOST_WARMTH + 1;
        int most = LEAST_WARMTH - 1;
        for (int f = 0; f < now.fleet.size; f++) {
            if (now.fleet.isKnown(f)) {
                least = Math.min(least, now.fleet.warmth[f]);
                most = Math.max(most, now.fleet.warmth[f]);
            }
        }
        return least > most ? NONE : farOff(warmth, least, most);
    }

    public int held(int what) {
        switch (what) {
            case 0: return heldFlights(false) + heldFlights(true);
            case 1: return heldFlights(true);
            case 2: return heldFlights(false);
            default: return NONE;
        }
    }

    public int line(int flight) {
        return now.fleet.has(flight) ? now.fleet.lineBehind(flight) : NONE;
    }

    public int slip(int i) {
        int slips = 0;
        int height = 0;
        for (int f = 0; f < now.fleet.size; f++) {
            int worst = now.fleet.worst(f);
            if (worst > height) {
                if (slips == i) {
                    return f;
                }
                height = worst;
                slips++;
            }
        }
        return i == NONE ? slips : NONE;
    }

    public int picture(int text, int which, int i) {
        Text law = now.lawAt(text);
        if (law == null || !isFlag(which)) {
            return NONE;
        }
        sight.draw(law, which);
        return within(i, 0, sight.size - 1) ? sight.order[i] : NONE;
    }

    public int seen(int text, int which, int what) {
        Text law = now.lawAt(text);
        if (law == null || !isFlag(which) || !within(what, 0, 2)) {
            return NONE;
        }
        sight.draw(law, which);
        if (what == 0) {
            return sight.size;
        }
        return what == 1 ? sight.changes() : sight.takenOut();
    }

    public int best(int which) {
        if (!isFlag(which)) {
            return NONE;
        }
        int first = NONE;
        int changes = 0;
        int takenOut = 0;
        for (int i = 0; i < now.textCount; i++) {
            Text law = now.lawAt(i);
            if (law == null) {
                return NONE;
            }
            sight.draw(law, which);
            int change = sight.changes();
            int out = sight.takenOut();
            if (first == NONE || change < changes || change == changes && out < takenOut) {
                first = i;
                changes = change;
                takenOut = out;
            }
        }
        return first;
    }

    public int talker(int rank, int room, int side, int doubt, int vote) {
        if (!within(rank, 0, 9) || !within(room, 0, 2) || !isFlag(side)
                || !within(doubt, 0, MOST_DOUBT) || !isFlag(vote)) {
            return refuse(BAD_NUMBER);
        }
        if (now.hall.talkers >= MOST_TALKERS) {
            return refuse(NO_ROOM);
        }
        return granted(now.hall.seat(rank, room, side, doubt, vote));
    }

    public int sheet(int talker, int minute, int kind, int weight, int rooms) {
        if (!within(minute, 0, 400) || !within(kind, 0, 7) || !within(weight, -50, 50)
                || !within(rooms, 0, 7)) {
            return refuse(BAD_NUMBER);
        }
        if (!within(talker, 0, now.hall.talkers - 1)) {
            return refuse(NO_SUCH);
        }
        if (now.hall.sheets >= MOST_SHEETS) {
            return refuse(NO_ROOM);
        }
        return granted(now.hall.file(talker, minute, kind, weight, rooms));
    }

    public int send(int sheet, int sent) {
        if (!isFlag(sent)) {
            return refuse(BAD_NUMBER);
        }
        if (!now.hall.hasSheet(sheet)) {
            return refuse(NO_SUCH);
        }
        int was = now.hall.sent[sheet];
        now.hall.sent[sheet] = sent;
        return granted(was);
    }

    public int talk(int moves, int stops, int what) {
        if (!within(what, 0, 2) || !opensTalk(moves, stops, false)) {
            return NONE;
        }
        talks.hold(NONE);
        if (what == 2) {
            return talks.firstProof;
        }
        int against = talks.stoppers(0);
        return what == 0 ? against : flag(against >= now.term[NEED]);
    }

    public int talked(int moves, int stops, int talker, int what) {
        if (!within(what, 0, 2) || !within(talker, 0, now.hall.talkers - 1)
                || !opensTalk(moves, stops, false)) {
            return NONE;
        }
        talks.hold(NONE);
        switch (what) {
            case 0: return talks.doubt[talker];
            case 1: return talks.proof[talker];
            default: return flag(talks.stopsIt(talker, 0));
        }
    }

    public int least(int moves, int stops) {
        if (!opensTalk(moves, stops, true)) {
            return NONE;
        }
        int chosen = talks.fewestMore();
        return chosen == NONE ? NONE : Integer.bitCount(chosen);
    }

    public int more(int moves, int stops, int i) {
        if (i < 0 || !opensTalk(moves, stops, true)) {
            return NONE;
        }
        int chosen = talks.fewestMore();
        if (chosen == NONE) {
            return NONE;
        }
        int place = 0;
        for (int s = 0; s < now.hall.sheets; s++) {
            if ((chosen >> s & 1) == 1) {
                if (place == i) {
                    return s;
                }
                place++;
            }
        }
        return NONE;
    }

    public int parts(int moves, int stops, int sheet) {
        if (!now.hall.hasSheet(sheet) || now.hall.sent[sheet] == 1 || !opensTalk(moves, stops, true)) {
            return NONE;
        }
        talks.noteVotes();
        return talks.otherwise(sheet);
    }

    public int ask(int moves, int stops) {
        if (!opensTalk(moves, stops, true)) {
            return NONE;
        }
        talks.noteVotes();
        int first = NONE;
        int most = 0;
        for (int s = 0; s < now.hall.sheets; s++) {
            if (now.hall.sent[s] == 0) {
                int others = talks.otherwise(s);
                if (first == NONE || others > most) {
                    first = s;
                    most = others;
                }
            }
        }
        return first;
    }

    public int worlds(int moves, int stops, int n, int seed) {
        if (!within(n, 1, MOST_WORLDS) || !within(seed, 0, MOST_SEED) || !opensTalk(moves, stops, true)) {
            return NONE;
        }
        return talks.stoppedWorlds(n, seed);
    }

    public int image(int k) {
        if (!isFlag(k)) {
            return refuse(BAD_NUMBER);
        }
        images[k].copyFrom(now);
        kept[k] = true;
        return granted(0);
    }

    public int back(int k) {
        if (!isFlag(k)) {
            return refuse(BAD_NUMBER);
        }
        if (!kept[k]) {
            return refuse(NO_SUCH);
        }
        now.copyFrom(images[k]);
        return granted(0);
    }

    public int count(int what) {
        switch (what) {
            case 0: return now.fleet.size;
            case 1: return now.textCount;
            case 2: return now.bench.size;
            case 3: return now.hall.talkers;
            case 4: return now.hall.sheets;
            case 5: return now.hall.sheets - now.hall.unsent();
            case 6: return now.fleet.howMany(0);
            case 7: return now.fleet.howMany(1);
            case 8: return reader.length;
            default: return within(what, 9, 13) ? refusals[what - 9] : NONE;
        }
    }

    public int status() {
        return lastRefusal;
    }

    private static boolean within(int number, int least, int most) {
        return number >= least && number <= most;
    }

    private static boolean isFlag(int number) {
        return number == 0 || number == 1;
    }

    private static int flag(boolean so) {
        return so ? 1 : 0;
    }

    private static int nearest(int number, int least, int most) {
        return Math.max(least, Math.min(most, number));
    }

    private static boolean isWarmth(int number) {
        return within(number, LEAST_WARMTH, MOST_WARMTH);
    }

    private static boolean isHull(int press, int rings) {
        return within(press, 0, MOST_PRESS) && within(rings, 1, MOST_RINGS);
    }

    private static int leastOfTerm(int what) {
        return what == NEED ? 1 : 0;
    }

    private static int mostOfTerm(int what) {
        switch (what) {
            case TENTHS: return MOST_TENTHS;
            case NEED: return MOST_TALKERS;
            case HURRY: return 100;
            default: return 99;
        }
    }

    private int refuse(int why) {
        lastRefusal = why;
        refusals[refusalPlace(why)]++;
        return why;
    }

    private static int refusalPlace(int why) {
        switch (why) {
            case BAD_NUMBER: return 0;
            case NO_SUCH: return 1;
            case NO_ROOM: return 3;
            default: return 4;
        }
    }

    /** Every call that changes what stands ends here, so that a LEAST found earlier is not told again. */
    private int granted(int answer) {
        lastRefusal = 0;
        talks.forget();
        return answer;
    }

    private boolean opensTalk(int moves, int stops, boolean votersAlone) {
        Text moving = now.lawAt(moves);
        Text stopping = now.lawAt(stops);
        if (moving == null || stopping == null) {
            return false;
        }
        talks.open(moving, stopping, votersAlone);
        return true;
    }

    private int oddsBy(Text law, int warmth, int press, int ring) {
        asker.clear();
        asker.word[WORD_WARMTH] = warmth;
        asker.word[WORD_PRESS] = press;
        asker.word[WORD_RING] = ring;
        return asker.holds(law, HEAD_ODDS) ? nearest(asker.told, 1, 99) : 50;
    }

    /** The hundredths by which each RING divides are the same for every TEXT, so they are left out. */
    private void multiplyChances(Text law, int which, Natural into) {
        Fleet fleet = now.fleet;
        into.setOne();
        for (int f = 0; f < fleet.size; f++) {
            if (!fleet.isOf(which, f)) {
                continue;
            }
            for (int r = 0; r < fleet.rings[f]; r++) {
                int scorch = fleet.scorch[f * MOST_RINGS + r];
                if (scorch != NONE) {
                    int odds = oddsBy(law, fleet.warmth[f], fleet.press[f], r);
                    into.setProduct(into, scorch > 0 ? odds : 100 - odds);
                }
            }
        }
    }

    /** Halves the span of what it can be, since no long division is at hand. */
    private static int timesAsGreat(Natural one, Natural other, Natural scratch) {
        int low = 0;
        int high = MOST_TIMES;
        for (int step = 0; step < 32 && low < high; step++) {
            int middle = (low + high + 1) / 2;
            scratch.setProduct(other, middle);
            if (scratch.compareWith(one) <= 0) {
                low = middle;
            } else {
                high = middle - 1;
            }
        }
        return low;
    }

    private static long commonDivisor(long a, long b) {
        long greater = a;
        long lesser = b;
        for (int step = 0; step < 200 && lesser > 0; step++) {
            long rest = greater % lesser;
            greater = lesser;
            lesser = rest;
        }
        return greater;
    }

    private static int farOff(int warmth, int least, int most) {
        return Math.max(0, Math.max(least - warmth, warmth - most));
    }

    /** How many the RULE of MARGIN holds of those that are SCORCHED, or of those that are not. */
    private int heldFlights(boolean scorched) {
        Fleet fleet = now.fleet;
        int held = 0;
        int least = MOST_WARMTH + 1;
        int most = LEAST_WARMTH - 1;
        for (int f = 0; f < fleet.size; f++) {
            if (!fleet.isKnown(f)) {
                continue;
            }
            int warmth = fleet.warmth[f];
            if (least <= most && farOff(warmth, least, most) > now.term[MARGIN]) {
                held += flag(fleet.isScorched(f) == scorched);
            } else {
                least = Math.min(least, warmth);
                most = Math.max(most, warmth);
            }
        }
        return held;
    }

    /** The FLIGHTS with their RINGS. */
    private static final class Fleet {
        final int[] warmth = new int[MOST_FLIGHTS];
        final int[] press = new int[MOST_FLIGHTS];
        final int[] rings = new int[MOST_FLIGHTS];
        final int[] scorch = new int[MOST_FLIGHTS * MOST_RINGS];
        int size = 0;

        void copyFrom(Fleet other) {
            System.arraycopy(other.warmth, 0, warmth, 0, MOST_FLIGHTS);
            System.arraycopy(other.press, 0, press, 0, MOST_FLIGHTS);
            System.arraycopy(other.rings, 0, rings, 0, MOST_FLIGHTS);
            System.arraycopy(other.scorch, 0, scorch, 0, MOST_FLIGHTS * MOST_RINGS);
            size = other.size;
        }

        boolean has(int flight) {
            return within(flight, 0, size - 1);
        }

        int add(int itsWarmth, int itsPress, int itsRings, int itsScorch) {
            if (size >= MOST_FLIGHTS) {
                return NONE;
            }
            warmth[size] = itsWarmth;
            press[size] = itsPress;
            rings[size] = itsRings;
            for (int r = 0; r < MOST_RINGS; r++) {
                scorch[size * MOST_RINGS + r] = itsScorch;
            }
            size++;
            return size - 1;
        }

        /** NONE if it is LOST: LOST RINGS stand as NONE, which is below every SCORCH. */
        int worst(int flight) {
            int worst = NONE;
            for (int r = 0; r < rings[flight]; r++) {
                worst = Math.max(worst, scorch[flight * MOST_RINGS + r]);
            }
            return worst;
        }

        boolean isKnown(int flight) {
            return worst(flight) != NONE;
        }

        boolean isScorched(int flight) {
            return worst(flight) > 0;
        }

        /** Whether it is one of WHICH flights. */
        boolean isOf(int which, int flight) {
            return which == 0 ? isKnown(flight) : isScorched(flight);
        }

        /** Whether it is BAD among WHICH flights. */
        boolean isBad(int which, int flight) {
            return worst(flight) > which;
        }

        int howMany(int which) {
            int many = 0;
            for (int f = 0; f < size; f++) {
                many += flag(isOf(which, f));
            }
            return many;
        }

        int lineBehind(int flight) {
            int height = 0;
            for (int f = 0; f <= flight && f < size; f++) {
                height = Math.max(height, worst(f));
            }
            return height;
        }
    }

    /** The BENCH with its POINTS, and the span that it told last. */
    private static final class Bench {
        final int[] warmth = new int[MOST_POINTS];
        final int[] tenths = new int[MOST_POINTS];
        int size = 0;
        int least = 0;
        int most = 0;

        void copyFrom(Bench other) {
            System.arraycopy(other.warmth, 0, warmth, 0, MOST_POINTS);
            System.arraycopy(other.tenths, 0, tenths, 0, MOST_POINTS);
            size = other.size;
        }

        boolean put(int itsWarmth, int itsTenths) {
            int at = 0;
            while (at < size && warmth[at] != itsWarmth) {
                at++;
            }
            if (at >= MOST_POINTS) {
                return false;
            }
            warmth[at] = itsWarmth;
            tenths[at] = itsTenths;
            size = Math.max(size, at + 1);
            return true;
        }

        /** Puts the span at a WARMTH into least and most; false if it is BEYOND. */
        boolean tellsSpan(int at) {
            int below = NONE;
            int above = NONE;
            for (int p = 0; p < size; p++) {
                if (warmth[p] <= at && (below == NONE || warmth[p] > warmth[below])) {
                    below = p;
                }
                if (warmth[p] >= at && (above == NONE || warmth[p] < warmth[above])) {
                    above = p;
                }
            }
            if (below == NONE || above == NONE) {
                return false;
            }
            least = Math.min(tenths[below], tenths[above]);
            most = Math.max(tenths[below], tenths[above]);
            return true;
        }
    }

    /** The TALKERS and the SHEETS. */
    private static final class Hall {
        final int[] rank = new int[MOST_TALKERS];
        final int[] room = new int[MOST_TALKERS];
        final int[] side = new int[MOST_TALKERS];
        final int[] doubt = new int[MOST_TALKERS];
        final int[] vote = new int[MOST_TALKERS];
        int talkers = 0;
        final int[] by = new int[MOST_SHEETS];
        final int[] minute = new int[MOST_SHEETS];
        final int[] kind = new int[MOST_SHEETS];
        final int[] weight = new int[MOST_SHEETS];
        final int[] rooms = new int[MOST_SHEETS];
        final int[] sent = new int[MOST_SHEETS];
        final int[] turn = new int[MOST_SHEETS];
        int sheets = 0;

        void copyFrom(Hall other) {
            System.arraycopy(other.rank, 0, rank, 0, MOST_TALKERS);
            System.arraycopy(other.room, 0, room, 0, MOST_TALKERS);
            System.arraycopy(other.side, 0, side, 0, MOST_TALKERS);
            System.arraycopy(other.doubt, 0, doubt, 0, MOST_TALKERS);
            System.arraycopy(other.vote, 0, vote, 0, MOST_TALKERS);
            talkers = other.talkers;
            System.arraycopy(other.by, 0, by, 0, MOST_SHEETS);
            System.arraycopy(other.minute, 0, minute, 0, MOST_SHEETS);
            System.arraycopy(other.kind, 0, kind, 0, MOST_SHEETS);
            System.arraycopy(other.weight, 0, weight, 0, MOST_SHEETS);
            System.arraycopy(other.rooms, 0, rooms, 0, MOST_SHEETS);
            System.arraycopy(other.sent, 0, sent, 0, MOST_SHEETS);
            System.arraycopy(other.turn, 0, turn, 0, MOST_SHEETS);
            sheets = other.sheets;
        }

        int seat(int itsRank, int itsRoom, int itsSide, int itsDoubt, int itsVote) {
            if (talkers >= MOST_TALKERS) {
                return NONE;
            }
            rank[talkers] = itsRank;
            room[talkers] = itsRoom;
            side[talkers] = itsSide;
            doubt[talkers] = itsDoubt;
            vote[talkers] = itsVote;
            talkers++;
            return talkers - 1;
        }

        int file(int talker, int itsMinute, int itsKind, int itsWeight, int itsRooms) {
            if (sheets >= MOST_SHEETS) {
                return NONE;
            }
            by[sheets] = talker;
            minute[sheets] = itsMinute;
            kind[sheets] = itsKind;
            weight[sheets] = itsWeight;
            rooms[sheets] = itsRooms;
            sent[sheets] = 0;
            takeTurn(sheets);
            sheets++;
            return sheets - 1;
        }

        /** The turns are kept in order here, since a SHEET's MINUTE never changes. */
        private void takeTurn(int sheet) {
            int at = sheet;
            while (at > 0 && minute[turn[at - 1]] > minute[sheet]) {
                turn[at] = turn[at - 1];
                at--;
            }
            turn[at] = sheet;
        }

        boolean hasSheet(int sheet) {
            return within(sheet, 0, sheets - 1);
        }

        boolean isShownTo(int sheet, int talker) {
            return by[sheet] != talker && (rooms[sheet] >> room[talker] & 1) == 1;
        }

        int unsent() {
            int many = 0;
            for (int s = 0; s < sheets; s++) {
                many += 1 - sent[s];
            }
            return many;
        }
    }

    /** All that an IMAGE keeps. */
    private static final class State {
        final Fleet fleet = new Fleet();
        final Bench bench = new Bench();
        final Hall hall = new Hall();
        final int[] term = {6, 1, 0, 0};
        final Text[] texts = new Text[MOST_TEXTS];
        int textCount = 0;

        void copyFrom(State other) {
            fleet.copyFrom(other.fleet);
            bench.copyFrom(other.bench);
            hall.copyFrom(other.hall);
            System.arraycopy(other.term, 0, term, 0, TERMS);
            for (int i = 0; i < MOST_TEXTS; i++) {
                texts[i] = other.texts[i];
            }
            textCount = other.textCount;
        }

        Text lawAt(int text) {
            return within(text, 0, textCount - 1) ? texts[text] : null;
        }
    }

    /** A TEXT as it was read: steps, and of each CLAUSE its HEAD and where its steps stand. */
    private static final class Text {
        static final int NUMBERS = 4;
        final int[] steps;
        final int[] clauses;

        Text(int[] steps, int[] clauses) {
            this.steps = steps;
            this.clauses = clauses;
        }
    }

    /** The TAPE, and how a TEXT is read from it. Where reading fails, tokenAt is the FAULT. */
    private static final class Reader {
        static final int MOST_BYTES = 400;
        static final int MOST_CLAUSES = 12;
        static final int MOST_PARTS = 50;
        static final int MOST_DEPTH = 8;
        static final int MOST_NUMBER = 1000;

        /** The place of a name here is the kind of its TOKEN: the HEADS first, the words last. */
        static final String NAMES =
            "odds move key stop if or and not warmth press ring worst rank room side doubt proof kind weight minute ";
        static final int IF = 4;
        static final int OR = 5;
        static final int AND = 6;
        static final int NOT = 7;
        static final int FIRST_WORD = 8;
        static final int NUMBER = 20;
        static final int UNKNOWN = 21;
        static final int END = 22;
        /** A single byte's kind is this and the byte. */
        static final int SIGN = 1000;

        final byte[] tape = new byte[MOST_BYTES];
        int length = 0;
        private int limit = 0;
        private int next = 0;
        private int kind = END;
        int tokenAt = 0;
        private int number = 0;
        private int parts = 0;
        private final int[] steps = new int[MOST_BYTES];
        private int size = 0;
        private final int[] clauses = new int[MOST_CLAUSES * Text.NUMBERS];
        private int clauseNumbers = 0;

        boolean takes(int bytes) {
            return length + bytes <= MOST_BYTES;
        }

        void append(int four) {
            for (int shift = 24; shift >= 0 && length < MOST_BYTES; shift -= 8) {
                tape[length] = (byte) (four >> shift);
                length++;
            }
        }

        int shortAt(int at) {
            return tape[at] << 8 | tape[at + 1] & 255;
        }

        /** Null if the first bytes of the TAPE are no TEXT. */
        Text read(int bytes) {
            limit = Math.min(bytes, MOST_BYTES);
            next = 0;
            parts = 0;
            size = 0;
            clauseNumbers = 0;
            advance();
            boolean well = readClause();
            for (int n = 1; n <= MOST_CLAUSES && well && isSign(';'); n++) {
                advance();
                well = n < MOST_CLAUSES && readClause();
            }
            if (!well || kind != END) {
                return null;
            }
            return new Text(Arrays.copyOf(steps, size), Arrays.copyOf(clauses, clauseNumbers));
        }

        private boolean isSign(char sign) {
            return kind == SIGN + sign;
        }

        private void advance() {
            while (next < limit && tape[next] == ' ') {
                next++;
            }
            tokenAt = next;
            if (next >= limit) {
                kind = END;
            } else if (isLetter(tape[next])) {
                while (next < limit && isLetter(tape[next])) {
                    next++;
                }
                kind = kindOfName();
            } else if (isDigit(tape[next])) {
                number = 0;
                while (next < limit && isDigit(tape[next])) {
                    number = Math.min(MOST_NUMBER + 1, number * 10 + tape[next] - '0');
                    next++;
                }
                kind = number > MOST_NUMBER ? UNKNOWN : NUMBER;
            } else {
                kind = SIGN + tape[next];
                next++;
            }
        }

        private static boolean isLetter(byte sign) {
            return sign >= 'a' && sign <= 'z';
        }

        private static boolean isDigit(byte sign) {
            return sign >= '0' && sign <= '9';
        }

        private int kindOfName() {
            int found = 0;
            int same = 0;
            boolean alike = true;
            for (int i = 0; i < NAMES.length(); i++) {
                char letter = NAMES.charAt(i);
                if (letter == ' ') {
                    if (alike && tokenAt + same == next) {
                        return found;
                    }
                    found++;
                    same = 0;
                    alike = true;
                } else {
                    alike = alike && tokenAt + same < next && tape[tokenAt + same] == letter;
                    same++;
                }
            }
            return UNKNOWN;
        }

        /** Answers where the step stands. */
        private int emit(int op, int with) {
            int at = size;
            if (at < steps.length) {
                steps[at] = with << 4 | op;
                size++;
            }
            return at;
        }

        private void skipToHere(int at, int op) {
            if (at != NONE && at < size) {
                steps[at] = size << 4 | op;
            }
        }

        private boolean readClause() {
            if (kind > HEAD_STOP || clauseNumbers + Text.NUMBERS > clauses.length) {
                return false;
            }
            int head = kind;
            int sumAt = size;
            advance();
            if (head != HEAD_STOP && !readSum(0)) {
                return false;
            }
            int testAt = size;
            if (kind == IF) {
                advance();
                if (!readTest(0)) {
                    return false;
                }
            }
            clauses[clauseNumbers] = head;
            clauses[clauseNumbers + 1] = sumAt;
            clauses[clauseNumbers + 2] = testAt;
            clauses[clauseNumbers + 3] = size;
            clauseNumbers += Text.NUMBERS;
            return true;
        }

        /**
         * What stands behind an "and" is skipped to the next "and" or "or", what stands behind an "or" to
         * the next "or": a skip that ends at another one of its kind goes on from there.
         */
        private boolean readTest(int depth) {
            int andSkip = NONE;
            int orSkip = NONE;
            boolean well = readPlain(depth);
            for (int n = 0; n < MOST_BYTES && well && (kind == AND || kind == OR); n++) {
                skipToHere(andSkip, OP_SKIP_IF_NOT);
                if (kind == AND) {
                    andSkip = emit(OP_SKIP_IF_NOT, 0);
                } else {
                    skipToHere(orSkip, OP_SKIP_IF_SO);
                    orSkip = emit(OP_SKIP_IF_SO, 0);
                    andSkip = NONE;
                }
                advance();
                well = readPlain(depth);
            }
            skipToHere(andSkip, OP_SKIP_IF_NOT);
            skipToHere(orSkip, OP_SKIP_IF_SO);
            return well;
        }

        /** Rows of "not" are counted, not gone down into: there can be nearly a hundred. */
        private boolean readPlain(int depth) {
            boolean flips = false;
            for (int n = 0; n < MOST_BYTES && kind == NOT; n++) {
                flips = !flips;
                advance();
            }
            boolean well = isSign('(') ? readBracket(depth) : readComparison(depth);
            if (well && flips) {
                emit(OP_FLIP, 0);
            }
            return well;
        }

        private boolean readBracket(int depth) {
            if (depth >= MOST_DEPTH) {
                return false;
            }
            advance();
            if (!readTest(depth + 1) || !isSign(')')) {
                return false;
            }
            advance();
            return true;
        }

        private boolean readComparison(int depth) {
            if (!readSum(depth)) {
                return false;
            }
            int op = isSign('<') ? OP_LESS : isSign('>') ? OP_GREATER : OP_SAME;
            if (op == OP_SAME && !isSign('=')) {
                return false;
            }
            advance();
            if (!readSum(depth)) {
                return false;
            }
            emit(op, 0);
            return true;
        }

        /** "+" and "-" wait until the TERM behind them is whole. */
        private boolean readSum(int depth) {
            int waiting = NONE;
            boolean well = readPart(depth);
            for (int n = 0; n < MOST_BYTES && well && operator() != NONE; n++) {
                int op = operator();
                if (op == OP_ADD || op == OP_SUBTRACT) {
                    emitIfAny(waiting);
                    waiting = op;
                }
                advance();
                well = readPart(depth);
                emitIfAny(op == waiting ? NONE : op);
            }
            emitIfAny(waiting);
            return well;
        }

        private void emitIfAny(int op) {
            if (op != NONE) {
                emit(op, 0);
            }
        }

        private int operator() {
            switch (kind) {
                case SIGN + '+': return OP_ADD;
                case SIGN + '-': return OP_SUBTRACT;
                case SIGN + '*': return OP_MULTIPLY;
                case SIGN + '/': return OP_DIVIDE;
                default: return NONE;
            }
        }

        private boolean readPart(int depth) {
            if (isSign('[')) {
                if (depth >= MOST_DEPTH) {
                    return false;
                }
                advance();
                if (!readSum(depth + 1) || !isSign(']')) {
                    return false;
                }
            } else {
                if (kind < FIRST_WORD || kind > NUMBER || parts >= MOST_PARTS) {
                    return false;
                }
                parts++;
                emit(kind == NUMBER ? OP_NUMBER : OP_WORD, kind == NUMBER ? number : kind - FIRST_WORD);
            }
            advance();
            return true;
        }
    }

    /** Asks TEXTS: what their words are now stands in word, what was told last in told. */
    private static final class Asker {
        static final int MOST_SUM = 1_000_000_000;
        static final int DEEPEST = 64;

        final int[] word = new int[WORDS];
        int told = 0;
        private final int[] stack = new int[DEEPEST];
        private int top = 0;
        private boolean so = false;

        void clear() {
            Arrays.fill(word, 0);
        }

        /**
         * Whether a CLAUSE with that HEAD holds. It goes from the last one on: asking changes nothing, so
         * those ahead of it need not be asked. The SUM goes behind the "if", so that it is left on the stack.
         */
        boolean holds(Text law, int head) {
            int[] clauses = law.clauses;
            for (int c = clauses.length - Text.NUMBERS; c >= 0; c -= Text.NUMBERS) {
                if (clauses[c] != head) {
                    continue;
                }
                so = true;
                if (isSound(law.steps, clauses[c + 2], clauses[c + 3]) && so
                        && isSound(law.steps, clauses[c + 1], clauses[c + 2])) {
                    told = stack[0];
                    return true;
                }
            }
            return false;
        }

        /** False if it is BROKEN. */
        private boolean isSound(int[] steps, int from, int end) {
            top = 0;
            int skipTo = from;
            for (int at = from; at < end && at < steps.length; at++) {
                if (at < skipTo) {
                    continue;
                }
                int op = steps[at] & 15;
                int with = steps[at] >> 4;
                if (op <= OP_WORD) {
                    if (top >= DEEPEST || op == OP_WORD && with >= WORDS) {
                        return false;
                    }
                    stack[top] = op == OP_WORD ? word[with] : with;
                    top++;
                } else if (op <= OP_SAME) {
                    if (!reckon(op)) {
                        return false;
                    }
                } else if (op == OP_FLIP) {
                    so = !so;
                } else if (so == (op == OP_SKIP_IF_SO)) {
                    skipTo = with;
                }
            }
            return true;
        }

        private boolean reckon(int op) {
            if (top < 2) {
                return false;
            }
            long left = stack[top - 2];
            long right = stack[top - 1];
            long result = 0;
            switch (op) {
                case OP_ADD: result = left + right; break;
                case OP_SUBTRACT: result = left - right; break;
                case OP_MULTIPLY: result = left * right; break;
                case OP_DIVIDE:
                    if (right == 0) {
                        return false;
                    }
                    result = left / right;
                    break;
                case OP_LESS: so = left < right; break;
                case OP_GREATER: so = left > right; break;
                default: so = left == right; break;
            }
            if (result > MOST_SUM || result < -MOST_SUM) {
                return false;
            }
            top -= op >= OP_LESS ? 2 : 1;
            if (op < OP_LESS) {
                stack[top - 1] = (int) result;
            }
            return true;
        }
    }

    /** A whole number above 0 that may be long: 144 RINGS give up to 288 digits, TIMES six more. */
    private static final class Natural {
        static final int BASE = 1_000_000_000;
        static final int MOST_LIMBS = 36;

        /** The lowest first. */
        private final int[] limbs = new int[MOST_LIMBS];
        private int size = 0;

        void setOne() {
            limbs[0] = 1;
            size = 1;
        }

        /** The other one may be this one. */
        void setProduct(Natural other, int factor) {
            long carry = 0;
            int count = other.size;
            for (int i = 0; i < count; i++) {
                carry += (long) other.limbs[i] * factor;
                limbs[i] = (int) (carry % BASE);
                carry /= BASE;
            }
            if (carry > 0 && count < MOST_LIMBS) {
                limbs[count] = (int) carry;
                count++;
            }
            size = count;
        }

        int compareWith(Natural other) {
            if (size != other.size) {
                return size < other.size ? -1 : 1;
            }
            for (int i = size - 1; i >= 0; i--) {
                if (limbs[i] != other.limbs[i]) {
                    return limbs[i] < other.limbs[i] ? -1 : 1;
                }
            }
            return 0;
        }
    }

    /** A PICTURE of WHICH flights in its order. */
    private static final class Picture {
        private final Fleet fleet;
        private final Asker asker;
        final int[] order = new int[MOST_FLIGHTS];
        private final int[] key = new int[MOST_FLIGHTS];
        private int which = 0;
        int size = 0;

        Picture(Fleet fleet, Asker asker) {
            this.fleet = fleet;
            this.asker = asker;
        }

        void draw(Text law, int whichFlights) {
            which = whichFlights;
            size = 0;
            asker.clear();
            for (int f = 0; f < fleet.size; f++) {
                if (fleet.isOf(which, f)) {
                    asker.word[WORD_WARMTH] = fleet.warmth[f];
                    asker.word[WORD_PRESS] = fleet.press[f];
                    asker.word[WORD_WORST] = fleet.worst(f);
                    insert(f, asker.holds(law, HEAD_KEY) ? asker.told : 0);
                }
            }
        }

        /** Flights come by their numbers, so one goes behind all that are alike. */
        private void insert(int flight, int itsKey) {
            int at = size;
            while (at > 0 && key[at - 1] > itsKey) {
                key[at] = key[at - 1];
                order[at] = order[at - 1];
                at--;
            }
            key[at] = itsKey;
            order[at] = flight;
            size++;
        }

        int changes() {
            int changes = 0;
            for (int i = 1; i < size; i++) {
                changes += flag(fleet.isBad(which, order[i]) != fleet.isBad(which, order[i - 1]));
            }
            return changes;
        }

        /** Wherever the one CHANGE is left, the ones of the wrong kind on each side of it must go. */
        int takenOut() {
            int badBehind = 0;
            for (int i = 0; i < size; i++) {
                badBehind += flag(fleet.isBad(which, order[i]));
            }
            int goodBehind = size - badBehind;
            int bad = 0;
            int good = 0;
            int fewest = Math.min(badBehind, goodBehind);
            for (int i = 0; i < size; i++) {
                if (fleet.isBad(which, order[i])) {
                    bad++;
                    badBehind--;
                } else {
                    good++;
                    goodBehind--;
                }
                fewest = Math.min(fewest, Math.min(good + badBehind, bad + goodBehind));
            }
            return fewest;
        }
    }

    /** SAYS: the ways in which as many flights as are BAD can be chosen from WHICH flights. */
    private static final class Ways {
        static final int MOST_CHOSEN = MOST_FLIGHTS / 2;
        static final int MOST_BOUND = MOST_CHOSEN * (MOST_WARMTH - LEAST_WARMTH);

        private final Fleet fleet;
        private final int[] value = new int[MOST_FLIGHTS];
        /** By how many are chosen and their sum; made when first asked for, since it is long. */
        private int[] ways = null;

        Ways(Fleet fleet) {
            this.fleet = fleet;
        }

        private int bad(int which) {
            int bad = 0;
            for (int f = 0; f < fleet.size; f++) {
                bad += flag(fleet.isBad(which, f));
            }
            return bad;
        }

        int inAll(int which) {
            int from = fleet.howMany(which);
            int chosen = bad(which);
            long all = 1;
            for (int i = 1; i <= chosen; i++) {
                all = all * (from - chosen + i) / i;
            }
            return (int) all;
        }

        /**
         * Who chooses as many as are BAD leaves the others: if these are fewer, they are counted, by how
         * much colder than the warmest they are. So never more than half of them are chosen.
         */
        int notAbove(int which) {
            int chosen = bad(which);
            int left = fleet.howMany(which) - chosen;
            boolean byBad = chosen <= left;
            setValues(which, byBad);
            int bound = 0;
            for (int f = 0; f < fleet.size; f++) {
                if (value[f] != NONE && fleet.isBad(which, f) == byBad) {
                    bound += value[f];
                }
            }
            return countWays(Math.min(chosen, left), bound);
        }

        /** How far above the coldest of WHICH flights each is, or below the warmest; NONE for others. */
        private void setValues(int which, boolean byBad) {
            int least = MOST_WARMTH;
            int most = LEAST_WARMTH;
            for (int f = 0; f < fleet.size; f++) {
                if (fleet.isOf(which, f)) {
                    least = Math.min(least, fleet.warmth[f]);
                    most = Math.max(most, fleet.warmth[f]);
                }
            }
            for (int f = 0; f < fleet.size; f++) {
                int far = byBad ? fleet.warmth[f] - least : most - fleet.warmth[f];
                value[f] = fleet.isOf(which, f) ? far : NONE;
            }
        }

        private int countWays(int chosen, int bound) {
            if (chosen > MOST_CHOSEN || bound > MOST_BOUND) {
                return NONE;
            }
            if (ways == null) {
                ways = new int[(MOST_CHOSEN + 1) * (MOST_BOUND + 1)];
            }
            int wide = bound + 1;
            Arrays.fill(ways, 0, (chosen + 1) * wide, 0);
            ways[0] = 1;
            for (int f = 0; f < fleet.size; f++) {
                if (value[f] != NONE) {
                    addChoice(chosen, wide, value[f]);
                }
            }
            int all = 0;
            for (int sum = 0; sum < wide; sum++) {
                all += ways[chosen * wide + sum];
            }
            return all;
        }

        /** From many down to few, so that none is chosen twice. */
        private void addChoice(int chosen, int wide, int worth) {
            for (int many = chosen; many >= 1; many--) {
                int to = many * wide;
                int from = to - wide - worth;
                for (int sum = worth; sum < wide; sum++) {
                    ways[to + sum] += ways[from + sum];
                }
            }
        }
    }

    /** TALKS by two TEXTS. DOUBT and PROOF stand in rows, one behind each SHEET that a search has shown. */
    private static final class Talks {
        static final int TURNED = 5;
        static final int HURRIED = 6;

        private final Hall hall;
        private final int[] term;
        private final Asker asker;
        private Text moves = null;
        private Text stops = null;
        /** Those who are followed: nobody's DOUBT hangs on another's, so often the voters are enough. */
        private final int[] who = new int[MOST_TALKERS];
        private int whoSize = 0;
        final int[] doubt = new int[(MOST_SHEETS + 1) * MOST_TALKERS];
        final int[] proof = new int[(MOST_SHEETS + 1) * MOST_TALKERS];
        int firstProof = NONE;
        private final boolean[] did = new boolean[MOST_TALKERS];
        private int fewest = NONE;
        private Text fewestMoves = null;
        private Text fewestStops = null;

        Talks(State now, Asker asker) {
            hall = now.hall;
            term = now.term;
            this.asker = asker;
        }

        void forget() {
            fewestMoves = null;
            fewestStops = null;
        }

        void open(Text moving, Text stopping, boolean votersAlone) {
            moves = moving;
            stops = stopping;
            whoSize = 0;
            for (int t = 0; t < hall.talkers; t++) {
                if (!votersAlone || hall.vote[t] == 1) {
                    who[whoSize] = t;
                    whoSize++;
                }
            }
            asker.clear();
        }

        private void begin() {
            firstProof = NONE;
            for (int i = 0; i < whoSize; i++) {
                doubt[who[i]] = hall.doubt[who[i]];
                proof[who[i]] = 0;
            }
        }

        /** A TALK in which one SHEET more (or NONE) is sent. */
        void hold(int extra) {
            begin();
            for (int i = 0; i < hall.sheets; i++) {
                int sheet = hall.turn[i];
                if (hall.sent[sheet] == 1 || sheet == extra) {
                    show(sheet, 0, 0);
                }
            }
        }

        private void show(int sheet, int from, int to) {
            tellSheet(hall.kind[sheet], hall.weight[sheet], hall.minute[sheet]);
            for (int i = 0; i < whoSize; i++) {
                int talker = who[i];
                int at = to * MOST_TALKERS + talker;
                doubt[at] = doubt[from * MOST_TALKERS + talker];
                proof[at] = proof[from * MOST_TALKERS + talker];
                if (hall.isShownTo(sheet, talker)) {
                    sway(sheet, talker, at);
                }
            }
        }

        private void sway(int sheet, int talker, int at) {
            if (hall.kind[sheet] == TURNED) {
                if (hall.rank[talker] < hall.rank[hall.by[sheet]]) {
                    proof[at] = 1;
                    firstProof = firstProof == NONE ? hall.minute[sheet] : firstProof;
                }
                return;
            }
            tellTalker(talker, at);
            int move = asker.holds(moves, HEAD_MOVE) ? asker.told : 0;
            if (hall.kind[sheet] == HURRIED) {
                move /= 2;
            }
            doubt[at] = nearest(doubt[at] + move, 0, MOST_DOUBT);
        }

        private void tellSheet(int kind, int weight, int minute) {
            asker.word[WORD_KIND] = kind;
            asker.word[WORD_WEIGHT] = weight;
            asker.word[WORD_MINUTE] = minute;
        }

        private void tellTalker(int talker, int at) {
            asker.word[WORD_RANK] = hall.rank[talker];
            asker.word[WORD_ROOM] = hall.room[talker];
            asker.word[WORD_SIDE] = hall.side[talker];
            asker.word[WORD_DOUBT] = doubt[at];
            asker.word[WORD_PROOF] = proof[at];
        }

        boolean stopsIt(int talker, int row) {
            if (hall.vote[talker] == 0) {
                return false;
            }
            tellSheet(0, 0, 0);
            tellTalker(talker, row * MOST_TALKERS + talker);
            return asker.holds(stops, HEAD_STOP);
        }

        int stoppers(int row) {
            int many = 0;
            for (int i = 0; i < whoSize; i++) {
                many += flag(stopsIt(who[i], row));
            }
            return many;
        }

        void noteVotes() {
            hold(NONE);
            for (int i = 0; i < whoSize; i++) {
                did[who[i]] = stopsIt(who[i], 0);
            }
        }

        /** How many do otherwise than was noted, if one SHEET more is sent. */
        int otherwise(int sheet) {
            hold(sheet);
            int many = 0;
            for (int i = 0; i < whoSize; i++) {
                many += flag(stopsIt(who[i], 0) != did[who[i]]);
            }
            return many;
        }

        /** LEAST as bits, NONE without; kept until something changes, since it is the dearest to find. */
        int fewestMore() {
            if (fewestMoves != moves || fewestStops != stops) {
                fewest = NONE;
                int free = whoSize < term[NEED] ? NONE : hall.unsent();
                for (int more = 0; more <= free && fewest == NONE; more++) {
                    begin();
                    seek(0, more, free, 0, 0);
                }
                fewestMoves = moves;
                fewestStops = stops;
            }
            return fewest;
        }

        /**
         * Goes through the SHEETS from a turn on, of which some are free to be sent or not and so many
         * more must be; DOUBTS stand in a row, and those ahead of it stay for the other ways to go on.
         */
        private void seek(int turn, int more, int free, int chosen, int row) {
            if (more > free || row > MOST_SHEETS) {
                return;
            }
            if (turn >= hall.sheets) {
                if (isEarlier(chosen) && stoppers(row) >= term[NEED]) {
                    fewest = chosen;
                }
                return;
            }
            int sheet = hall.turn[turn];
            boolean isFree = hall.sent[sheet] == 0;
            if (isFree) {
                seek(turn + 1, more, free - 1, chosen, row);
            }
            if ((!isFree || more > 0) && row < MOST_SHEETS) {
                show(sheet, row, row + 1);
                seek(turn + 1, isFree ? more - 1 : more, isFree ? free - 1 : free,
                        isFree ? chosen | 1 << sheet : chosen, row + 1);
            }
        }

        /** Of two rows as long, the earlier one has the lowest number that is not in both. */
        private boolean isEarlier(int chosen) {
            if (fewest == NONE) {
                return true;
            }
            int apart = chosen ^ fewest;
            return (apart & -apart & chosen) != 0;
        }

        int stoppedWorlds(int worlds, int seed) {
            int stopped = 0;
            int s = seed;
            for (int w = 0; w < worlds; w++) {
                begin();
                for (int i = 0; i < hall.sheets; i++) {
                    int sheet = hall.turn[i];
                    if (hall.sent[sheet] == 1) {
                        s = (s * 1103 + 12345) % 1_000_003;
                        if (s % 100 >= term[HURRY]) {
                            show(sheet, 0, 0);
                        }
                    }
                }
                stopped += flag(stoppers(0) >= term[NEED]);
            }
            return stopped;
        }
    }
}
