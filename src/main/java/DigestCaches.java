import java.util.Arrays;

/** Caches that tell one another by digests what they hold; see README.md for its use. */
public final class DigestCaches {
    public static final int NONE = -1, BAD_INDEX = -2, BAD_VALUE = -3, BAD_STATE = -4, FULL = -5;

    private static final int CACHES = 5;
    private static final int ORIGIN = 5;
    private static final int OBJECTS = 1000;
    private static final int MAX_CAPACITY = 16;
    private static final int MIN_COUNTERS = 8;
    private static final int MAX_COUNTERS = 64;
    private static final int MAX_FUNCTIONS = 4;
    private static final int MAX_DISTANCE = 99;
    private static final int MAX_AGE = 1000;
    private static final int MAX_HOPS = 4;
    private static final int MAX_PASS = 1000;
    private static final int MAX_TIME = 1000000;
    private static final int MAX_CHANCE = 1000;
    private static final int MAX_CODE = 255;

    private static final int COUNTS = 7;
    private static final int SERVED_ITSELF = 0;
    private static final int SERVED_BY_OTHER = 1;
    private static final int SERVED_BY_ORIGIN = 2;
    private static final int FALSE_HITS = 3;
    private static final int FALSE_MISSES = 4;
    private static final int HOPS = 5;
    private static final int UNITS_SENT = 6;

    private static final int COPY_VERSION = 0;
    private static final int COPY_TIME = 1;
    private static final int COPY_BITS = 2;
    private static final int COPY_FRESH = 3;
    private static final int COPY_DIFFERENCE = 4;

    private final State state = new State(new Shape());
    private final History history = new History();
    private final Text text = new Text();
    private final Walk latest = new Walk();

    // These serve questions only, so that a question makes no new object and changes nothing.
    private final Walk trialWalk = new Walk();
    private final Shape trialShape = new Shape();
    private final int[] spareRow = new int[MAX_COUNTERS];

    public DigestCaches() {
    }

    // ---- settings

    public int setFilters(int counters, int functions) {
        if (isOutside(counters, MIN_COUNTERS, MAX_COUNTERS) || isOutside(functions, 1, MAX_FUNCTIONS)) {
            return BAD_VALUE;
        }
        history.keep(state);
        int previous = state.shape.counters;
        state.reshape(counters, functions);
        return previous;
    }

    public int setCapacity(int cache, int capacity) {
        if (isNoCache(cache)) {
            return BAD_INDEX;
        }
        if (isOutside(capacity, 1, MAX_CAPACITY)) {
            return BAD_VALUE;
        }
        history.keep(state);
        int previous = state.caches[cache].capacity;
        state.caches[cache].limitTo(capacity);
        return previous;
    }

    public int setLink(int from, int to, boolean up) {
        int fault = pairFault(from, to);
        if (fault != NONE) {
            return fault;
        }
        history.keep(state);
        int previous = state.caches[from].links[to];
        state.caches[from].links[to] = up ? 1 : 0;
        return previous;
    }

    public int setDistance(int from, int to, int distance) {
        int fault = pairFault(from, to);
        if (fault != NONE) {
            return fault;
        }
        if (isOutside(distance, 0, MAX_DISTANCE)) {
            return BAD_VALUE;
        }
        history.keep(state);
        int previous = state.caches[from].distances[to];
        state.caches[from].distances[to] = distance;
        return previous;
    }

    public int setRules(int age, boolean storing, int limit) {
        if (isOutside(age, 0, MAX_AGE) || isOutside(limit, 0, MAX_HOPS)) {
            return BAD_VALUE;
        }
        history.keep(state);
        int previous = state.age;
        state.age = age;
        state.storing = storing;
        state.textLimit = limit;
        return previous;
    }

    public int pass(int many) {
        if (isOutside(many, 1, MAX_PASS)) {
            return BAD_VALUE;
        }
        if (state.time + many > MAX_TIME) {
            return FULL;
        }
        history.keep(state);
        state.time += many;
        return state.time;
    }

    // ---- objects and filters

    public int store(int cache, int object) {
        int fault = objectFault(cache, object);
        if (fault != NONE) {
            return fault;
        }
        history.keep(state);
        return state.caches[cache].take(object);
    }

    public int drop(int cache, int object) {
        int fault = objectFault(cache, object);
        if (fault != NONE) {
            return fault;
        }
        Cache place = state.caches[cache];
        int index = place.indexOf(object);
        if (index == NONE) {
            return BAD_STATE;
        }
        history.keep(state);
        place.removeAt(index);
        return place.filled;
    }

    public int rebuild(int cache) {
        if (isNoCache(cache)) {
            return BAD_INDEX;
        }
        history.keep(state);
        Cache place = state.caches[cache];
        place.filter.copyCountsTo(spareRow);
        place.refill();
        return place.filter.differences(spareRow);
    }

    public int size(int cache) {
        return isNoCache(cache) ? BAD_INDEX : state.caches[cache].filled;
    }

    public int held(int cache, int index) {
        if (isNoCache(cache) || isOutside(index, 0, state.caches[cache].filled - 1)) {
            return BAD_INDEX;
        }
        return state.caches[cache].objects[index];
    }

    public int holds(int cache, int object) {
        int fault = objectFault(cache, object);
        if (fault != NONE) {
            return fault;
        }
        return state.caches[cache].has(object) ? 1 : 0;
    }

    public int counter(int cache, int counter) {
        if (isNoCache(cache) || isOutside(counter, 0, state.shape.counters - 1)) {
            return BAD_INDEX;
        }
        return state.caches[cache].filter.counts[counter];
    }

    public int value(int object, int function) {
        if (isNoObject(object) || isOutside(function, 0, state.shape.functions - 1)) {
            return BAD_VALUE;
        }
        return state.shape.valueOf(object, function);
    }

    public int mayHold(int cache, int object) {
        int fault = objectFault(cache, object);
        if (fault != NONE) {
            return fault;
        }
        return state.shape.isIn(state.caches[cache].filter.bits(), object) ? 1 : 0;
    }

    public int chance(int cache) {
        if (isNoCache(cache)) {
            return BAD_INDEX;
        }
        return state.shape.chanceOf(state.caches[cache].filter.bits());
    }

    public int wrong(int cache) {
        return isNoCache(cache) ? BAD_INDEX : state.caches[cache].wronglyIn();
    }

    public int sized(int cache, int limit) {
        if (isNoCache(cache)) {
            return BAD_INDEX;
        }
        if (isOutside(limit, 0, MAX_CHANCE)) {
            return BAD_VALUE;
        }
        Cache place = state.caches[cache];
        for (int counters = MIN_COUNTERS; counters <= MAX_COUNTERS; counters++) {
            for (int functions = 1; functions <= MAX_FUNCTIONS; functions++) {
                trialShape.change(counters, functions);
                if (trialShape.chanceOf(place.bitsWith(trialShape)) <= limit) {
                    return 10 * counters + functions;
                }
            }
        }
        return NONE;
    }

    // ---- digests

    public int publish(int cache) {
        if (isNoCache(cache)) {
            return BAD_INDEX;
        }
        history.keep(state);
        return state.sendDigest(cache);
    }

    public int version(int cache) {
        return isNoCache(cache) ? BAD_INDEX : state.caches[cache].version;
    }

    public int copy(int at, int of, int what) {
        int fault = pairFault(at, of);
        if (fault != NONE) {
            return fault;
        }
        Cache place = state.caches[at];
        switch (what) {
            case COPY_VERSION:
                return place.copyVersions[of];
            case COPY_TIME:
                return place.copyTimes[of];
            case COPY_BITS:
                return Long.bitCount(place.copyMasks[of]);
            case COPY_FRESH:
                return state.isFresh(at, of) ? 1 : 0;
            case COPY_DIFFERENCE:
                return Long.bitCount(place.copyMasks[of] ^ state.caches[of].filter.bits());
            default:
                return BAD_VALUE;
        }
    }

    public long mask(int at, int of) {
        int fault = pairFault(at, of);
        return fault != NONE ? fault : state.caches[at].copyMasks[of];
    }

    public int expects(int at, int of, int object) {
        int fault = pairFault(at, of);
        if (fault != NONE) {
            return fault;
        }
        if (isNoObject(object)) {
            return BAD_VALUE;
        }
        return state.isExpected(at, of, object) ? 1 : 0;
    }

    // ---- requests

    public int request(int cache, int object, int limit) {
        int fault = objectFault(cache, object);
        if (fault != NONE) {
            return fault;
        }
        if (isOutside(limit, 0, MAX_HOPS)) {
            return BAD_VALUE;
        }
        history.keep(state);
        return serve(cache, object, limit);
    }

    public int way(int index) {
        if (index < 0) {
            return BAD_VALUE;
        }
        return index < latest.length ? latest.places[index] : NONE;
    }

    public int count(int cache, int what) {
        if (isNoCache(cache)) {
            return BAD_INDEX;
        }
        if (isOutside(what, 0, COUNTS - 1)) {
            return BAD_VALUE;
        }
        return state.caches[cache].tallies[what];
    }

    public int wouldServe(int cache, int object) {
        int fault = objectFault(cache, object);
        if (fault != NONE) {
            return fault;
        }
        trialWalk.seek(state, cache, object, MAX_HOPS);
        return trialWalk.server;
    }

    public int undo() {
        if (history.kept == 0) {
            return BAD_STATE;
        }
        history.restoreTo(state);
        return history.kept;
    }

    // ---- text

    public int type(int code) {
        if (isOutside(code, 0, MAX_CODE)) {
            return BAD_VALUE;
        }
        return text.append(code) ? text.length : FULL;
    }

    public int clearText() {
        int previous = text.length;
        text.length = 0;
        return previous;
    }

    public int textFault() {
        return text.parse();
    }

    public int run() {
        if (text.parse() != NONE) {
            return BAD_STATE;
        }
        history.keep(state);
        int hits = 0;
        for (int i = 0; i < text.requests; i++) {
            if (serve(text.askedCaches[i], text.askedObjects[i], state.textLimit) != ORIGIN) {
                hits++;
            }
        }
        return hits;
    }

    public long digest() {
        return state.hash();
    }

    // ---- what several calls share

    private int serve(int cache, int object, int limit) {
        latest.seek(state, cache, object, limit);
        state.settle(latest, cache, object);
        return latest.server;
    }

    private static boolean isOutside(int number, int lowest, int highest) {
        return number < lowest || number > highest;
    }

    private static boolean isNoCache(int cache) {
        return isOutside(cache, 0, CACHES - 1);
    }

    private static boolean isNoObject(int object) {
        return isOutside(object, 0, OBJECTS - 1);
    }

    /** The error of a call for a cache and an object, or NONE. */
    private static int objectFault(int cache, int object) {
        if (isNoCache(cache)) {
            return BAD_INDEX;
        }
        return isNoObject(object) ? BAD_VALUE : NONE;
    }

    /** The error of a call for two caches that must be different, or NONE. */
    private static int pairFault(int one, int other) {
        if (isNoCache(one) || isNoCache(other)) {
            return BAD_INDEX;
        }
        return one == other ? BAD_VALUE : NONE;
    }

    /** How many counters and functions the filters have, and what follows from these numbers alone. */
    private static final class Shape {
        private static final int[] FACTORS = {31, 57, 83, 109};
        private static final int[] SHIFTS = {7, 19, 43, 61};
        private static final int PRIME = 997;

        int counters = 32;
        int functions = 2;

        void change(int newCounters, int newFunctions) {
            counters = newCounters;
            functions = newFunctions;
        }

        int valueOf(int object, int function) {
            if (function < 0 || function >= MAX_FUNCTIONS || counters < 1) {
                return 0;
            }
            return (object * FACTORS[function] + SHIFTS[function]) % PRIME % counters;
        }

        long bitsOf(int object) {
            long bits = 0;
            for (int function = 0; function < functions; function++) {
                bits |= 1L << valueOf(object, function);
            }
            return bits;
        }

        boolean isIn(long mask, int object) {
            for (int function = 0; function < functions; function++) {
                if ((mask >>> valueOf(object, function) & 1) == 0) {
                    return false;
                }
            }
            return true;
        }

        int chanceOf(long mask) {
            int set = Long.bitCount(mask);
            long part = MAX_CHANCE;
            long whole = 1;
            for (int function = 0; function < functions; function++) {
                part *= set;
                whole *= counters;
            }
            return whole < 1 ? 0 : (int) (part / whole);
        }

        int wholeCost() {
            return 2 + counters / 4;
        }
    }

    /** The counters over the objects of one cache. */
    private static final class Filter {
        private static final int STUCK = 7;

        final Shape shape;
        final int[] counts = new int[MAX_COUNTERS];

        Filter(Shape shape) {
            this.shape = shape;
        }

        void countIn(int object) {
            for (int function = 0; function < shape.functions; function++) {
                int counter = shape.valueOf(object, function);
                if (counts[counter] < STUCK) {
                    counts[counter]++;
                }
            }
        }

        void countOut(int object) {
            for (int function = 0; function < shape.functions; function++) {
                int counter = shape.valueOf(object, function);
                if (counts[counter] > 0 && counts[counter] < STUCK) {
                    counts[counter]--;
                }
            }
        }

        void clear() {
            Arrays.fill(counts, 0);
        }

        long bits() {
            long bits = 0;
            for (int counter = 0; counter < shape.counters; counter++) {
                if (counts[counter] > 0) {
                    bits |= 1L << counter;
                }
            }
            return bits;
        }

        void copyCountsTo(int[] row) {
            System.arraycopy(counts, 0, row, 0, MAX_COUNTERS);
        }

        int differences(int[] row) {
            int different = 0;
            for (int counter = 0; counter < MAX_COUNTERS; counter++) {
                if (counts[counter] != row[counter]) {
                    different++;
                }
            }
            return different;
        }

        void copyFrom(Filter other) {
            other.copyCountsTo(counts);
        }
    }

    /** One cache: its objects, the latest used first, its filter, and what it knows of the others. */
    private static final class Cache {
        final Shape shape;
        final Filter filter;
        final int[] objects = new int[MAX_CAPACITY];
        int filled = 0;
        int capacity = 8;
        int version = 0;
        long published = 0;
        final int[] tallies = new int[COUNTS];

        // These rows have a place for each cache; the cache's own place is never used.
        final long[] copyMasks = new long[CACHES];
        final int[] copyVersions = new int[CACHES];
        final int[] copyTimes = new int[CACHES];
        final int[] links = new int[CACHES];
        final int[] distances = new int[CACHES];

        Cache(Shape shape, int number) {
            this.shape = shape;
            this.filter = new Filter(shape);
            for (int to = 0; to < CACHES; to++) {
                links[to] = 1;
                distances[to] = Math.abs(number - to);
            }
        }

        int indexOf(int object) {
            for (int index = 0; index < filled; index++) {
                if (objects[index] == object) {
                    return index;
                }
            }
            return NONE;
        }

        boolean has(int object) {
            return indexOf(object) != NONE;
        }

        /** Uses the object, or puts it at the front; answers the object that had to go, or NONE. */
        int take(int object) {
            int index = indexOf(object);
            if (index != NONE) {
                putFirst(object, index);
                return NONE;
            }
            // The last one goes first, since a counter that is 7 for a moment would stay 7.
            int dropped = filled < capacity ? NONE : removeAt(filled - 1);
            if (filled < MAX_CAPACITY) {
                putFirst(object, filled);
                filled++;
                filter.countIn(object);
            }
            return dropped;
        }

        /** Moves the objects before the index back by one, over the index, and puts the object before them. */
        private void putFirst(int object, int index) {
            for (int i = index; i > 0; i--) {
                objects[i] = objects[i - 1];
            }
            objects[0] = object;
        }

        /** Removes an object and answers it; NONE if there is no such index. */
        int removeAt(int index) {
            if (isOutside(index, 0, filled - 1)) {
                return NONE;
            }
            int object = objects[index];
            for (int i = index + 1; i < filled; i++) {
                objects[i - 1] = objects[i];
            }
            filled--;
            filter.countOut(object);
            return object;
        }

        void limitTo(int newCapacity) {
            capacity = newCapacity;
            for (int last = filled - 1; last >= newCapacity; last--) {
                removeAt(last);
            }
        }

        void refill() {
            filter.clear();
            for (int index = 0; index < filled; index++) {
                filter.countIn(objects[index]);
            }
        }

        /** The bits that a new filter of another shape would have over the objects held. */
        long bitsWith(Shape other) {
            long bits = 0;
            for (int index = 0; index < filled; index++) {
                bits |= other.bitsOf(objects[index]);
            }
            return bits;
        }

        int wronglyIn() {
            long bits = filter.bits();
            int many = 0;
            for (int object = 0; object < OBJECTS; object++) {
                if (shape.isIn(bits, object) && !has(object)) {
                    many++;
                }
            }
            return many;
        }

        void receive(int from, Cache sender, int now) {
            copyMasks[from] = sender.published;
            copyVersions[from] = sender.version;
            copyTimes[from] = now;
        }

        void forgetDigests() {
            version = 0;
            published = 0;
            Arrays.fill(copyMasks, 0L);
            Arrays.fill(copyVersions, 0);
            Arrays.fill(copyTimes, 0);
        }

        void copyFrom(Cache other) {
            filter.copyFrom(other.filter);
            System.arraycopy(other.objects, 0, objects, 0, MAX_CAPACITY);
            filled = other.filled;
            capacity = other.capacity;
            version = other.version;
            published = other.published;
            System.arraycopy(other.tallies, 0, tallies, 0, COUNTS);
            System.arraycopy(other.copyMasks, 0, copyMasks, 0, CACHES);
            System.arraycopy(other.copyVersions, 0, copyVersions, 0, CACHES);
            System.arraycopy(other.copyTimes, 0, copyTimes, 0, CACHES);
            System.arraycopy(other.links, 0, links, 0, CACHES);
            System.arraycopy(other.distances, 0, distances, 0, CACHES);
        }

        /** Goes on with the hash h over this cache, whose number tells which copies are of others. */
        long hashOnto(long h, int number) {
            h = 31 * h + capacity;
            h = 31 * h + filled;
            for (int index = 0; index < filled; index++) {
                h = 31 * h + objects[index];
            }
            for (int counter = 0; counter < shape.counters; counter++) {
                h = 31 * h + filter.counts[counter];
            }
            h = 31 * h + version;
            for (int what = 0; what < COUNTS; what++) {
                h = 31 * h + tallies[what];
            }
            for (int of = 0; of < CACHES; of++) {
                if (of != number) {
                    h = 31 * h + copyMasks[of];
                    h = 31 * h + copyVersions[of];
                    h = 31 * h + copyTimes[of];
                }
            }
            return h;
        }
    }

    /** All that the history keeps: the settings, the time and the caches. */
    private static final class State {
        final Shape shape;
        final Cache[] caches = new Cache[CACHES];
        int time = 0;
        int age = 100;
        boolean storing = true;
        int textLimit = 2;

        State(Shape shape) {
            this.shape = shape;
            for (int cache = 0; cache < CACHES; cache++) {
                caches[cache] = new Cache(shape, cache);
            }
        }

        void copyFrom(State other) {
            shape.change(other.shape.counters, other.shape.functions);
            for (int cache = 0; cache < CACHES; cache++) {
                caches[cache].copyFrom(other.caches[cache]);
            }
            time = other.time;
            age = other.age;
            storing = other.storing;
            textLimit = other.textLimit;
        }

        void reshape(int counters, int functions) {
            shape.change(counters, functions);
            for (int cache = 0; cache < CACHES; cache++) {
                caches[cache].refill();
                caches[cache].forgetDigests();
            }
        }

        /** Lets a cache publish and answers the units that it sends. */
        int sendDigest(int from) {
            Cache sender = caches[from];
            int before = sender.version;
            long bits = sender.filter.bits();
            int changesCost = 1 + Long.bitCount(bits ^ sender.published);
            int wholeCost = shape.wholeCost();
            sender.version++;
            sender.published = bits;
            int units = 0;
            for (int to = 0; to < CACHES; to++) {
                if (to != from && sender.links[to] == 1) {
                    boolean asChanges = caches[to].copyVersions[from] == before && changesCost < wholeCost;
                    units += asChanges ? changesCost : wholeCost;
                    caches[to].receive(from, sender, time);
                }
            }
            sender.tallies[UNITS_SENT] += units;
            return units;
        }

        boolean isFresh(int at, int of) {
            return caches[at].copyVersions[of] != 0 && time - caches[at].copyTimes[of] <= age;
        }

        boolean isExpected(int at, int of, int object) {
            return isFresh(at, of) && shape.isIn(caches[at].copyMasks[of], object);
        }

        /** Does what a request changes, after its walk has found who serves it. */
        void settle(Walk walk, int start, int object) {
            int[] tallies = caches[start].tallies;
            tallies[FALSE_HITS] += walk.falseHits;
            tallies[FALSE_MISSES] += walk.falseMisses;
            tallies[HOPS] += walk.length - 1;
            if (walk.server == ORIGIN) {
                tallies[SERVED_BY_ORIGIN]++;
            } else {
                tallies[walk.server == start ? SERVED_ITSELF : SERVED_BY_OTHER]++;
                caches[walk.server].take(object);
            }
            if (walk.server != start && storing) {
                caches[start].take(object);
            }
        }

        long hash() {
            long h = 17;
            h = 31 * h + shape.counters;
            h = 31 * h + shape.functions;
            h = 31 * h + time;
            for (int cache = 0; cache < CACHES; cache++) {
                h = caches[cache].hashOnto(h, cache);
            }
            return h;
        }
    }

    /** The way of one request. To seek it changes no cache. */
    private static final class Walk {
        final int[] places = new int[CACHES];
        int length = 0;
        int server = ORIGIN;
        int falseHits = 0;
        int falseMisses = 0;

        void seek(State state, int start, int object, int limit) {
            length = 0;
            falseHits = 0;
            enter(start);
            int here = start;
            boolean found = state.caches[here].has(object);
            for (int hops = 0; hops < limit && !found; hops++) {
                int next = nextPlace(state, here, object);
                if (next == NONE) {
                    break;
                }
                enter(next);
                here = next;
                found = state.caches[here].has(object);
                falseHits += found ? 0 : 1;
            }
            server = found ? here : ORIGIN;
            falseMisses = !found && isHeldElsewhere(state, object) ? 1 : 0;
        }

        private void enter(int place) {
            if (length < CACHES) {
                places[length] = place;
                length++;
            }
        }

        private boolean wasAt(int place) {
            for (int i = 0; i < length; i++) {
                if (places[i] == place) {
                    return true;
                }
            }
            return false;
        }

        /** The nearest cache that the request may go to, or NONE. */
        private int nextPlace(State state, int here, int object) {
            Cache cache = state.caches[here];
            int next = NONE;
            int smallest = MAX_DISTANCE + 1;
            for (int to = 0; to < CACHES; to++) {
                boolean open = !wasAt(to) && cache.links[to] == 1;
                if (open && cache.distances[to] < smallest && state.isExpected(here, to, object)) {
                    next = to;
                    smallest = cache.distances[to];
                }
            }
            return next;
        }

        private boolean isHeldElsewhere(State state, int object) {
            for (int place = 0; place < CACHES; place++) {
                if (!wasAt(place) && state.caches[place].has(object)) {
                    return true;
                }
            }
            return false;
        }
    }

    /** The latest states, the oldest one first. */
    private static final class History {
        private static final int STATES = 4;

        final State[] states = new State[STATES];
        int kept = 0;

        History() {
            for (int i = 0; i < STATES; i++) {
                states[i] = new State(new Shape());
            }
        }

        void keep(State state) {
            if (kept >= STATES) {
                dropOldest();
            }
            states[kept].copyFrom(state);
            kept++;
        }

        /** The oldest state's object goes to the end, to be written over. */
        private void dropOldest() {
            State oldest = states[0];
            for (int i = 1; i < STATES; i++) {
                states[i - 1] = states[i];
            }
            states[STATES - 1] = oldest;
            kept = STATES - 1;
        }

        void restoreTo(State state) {
            if (kept > 0) {
                kept--;
                state.copyFrom(states[kept]);
            }
        }
    }

    /** The text, and the requests that its latest parse has found. */
    private static final class Text {
        private static final int ROOM = 100;
        private static final int MAX_DIGITS = 3;

        // What may come next, blanks aside.
        private static final int CACHE = 0;
        private static final int COLON = 1;
        private static final int NUMBER = 2;
        private static final int DIGIT_OR_MARK = 3;
        private static final int MARK = 4;

        final int[] codes = new int[ROOM];
        int length = 0;

        // A number takes a byte at least, so there are never more requests than bytes.
        final int[] askedCaches = new int[ROOM];
        final int[] askedObjects = new int[ROOM];
        int requests = 0;

        private int next = CACHE;
        private int cache = 0;
        private int numberStart = 0;

        boolean append(int code) {
            if (length >= ROOM) {
                return false;
            }
            codes[length] = code;
            length++;
            return true;
        }

        /** Reads the text and answers its fault, or NONE; without a fault the requests are those of the text. */
        int parse() {
            requests = 0;
            next = CACHE;
            for (int at = 0; at < length; at++) {
                int fault = read(codes[at], at);
                if (fault != NONE) {
                    return fault;
                }
            }
            return next == DIGIT_OR_MARK || next == MARK ? NONE : length;
        }

        /** Reads one byte and answers the fault that it shows, or NONE. */
        private int read(int code, int at) {
            if (code == ' ') {
                next = next == DIGIT_OR_MARK ? MARK : next;
                return NONE;
            }
            switch (next) {
                case CACHE:
                    return readCache(code, at);
                case COLON:
                    return readColon(code, at);
                case NUMBER:
                    return isDigit(code) ? startNumber(code, at) : at;
                case DIGIT_OR_MARK:
                    return isDigit(code) ? extendNumber(code, at) : readMark(code, at);
                default:
                    return readMark(code, at);
            }
        }

        private int readCache(int code, int at) {
            if (isOutside(code - '0', 0, CACHES - 1)) {
                return at;
            }
            cache = code - '0';
            next = COLON;
            return NONE;
        }

        private int readColon(int code, int at) {
            if (code != ':') {
                return at;
            }
            next = NUMBER;
            return NONE;
        }

        private int startNumber(int code, int at) {
            if (requests >= ROOM) {
                return at;
            }
            askedCaches[requests] = cache;
            askedObjects[requests] = code - '0';
            requests++;
            numberStart = at;
            next = DIGIT_OR_MARK;
            return NONE;
        }

        private int extendNumber(int code, int at) {
            if (at - numberStart >= MAX_DIGITS || requests < 1) {
                return numberStart;
            }
            askedObjects[requests - 1] = 10 * askedObjects[requests - 1] + code - '0';
            return NONE;
        }

        private int readMark(int code, int at) {
            if (code == ',') {
                next = NUMBER;
                return NONE;
            }
            if (code == ';') {
                next = CACHE;
                return NONE;
            }
            return at;
        }

        private static boolean isDigit(int code) {
            return code >= '0' && code <= '9';
        }
    }
}
