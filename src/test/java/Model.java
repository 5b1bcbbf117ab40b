import java.util.ArrayDeque;
import java.util.ArrayList;
import java.util.BitSet;
import java.util.Comparator;
import java.util.Deque;
import java.util.LinkedHashSet;
import java.util.LinkedList;
import java.util.List;
import java.util.Set;
import java.util.stream.IntStream;

/** The document written a second time, without regard to speed or room, to compare answers with. */
final class Model {
    private static final int[] A = {31, 57, 83, 109};
    private static final int[] B = {7, 19, 43, 61};

    private record Copy(BitSet mask, int version, int time) {
        static final Copy FIRST = new Copy(new BitSet(), 0, 0);
    }

    private static final class World {
        int m = 32;
        int k = 2;
        int time;
        int age = 100;
        boolean storing = true;
        int limit = 2;
        final int[] capacity = {8, 8, 8, 8, 8};
        final List<LinkedList<Integer>> held = new ArrayList<>();
        final int[][] counters = new int[5][64];
        final int[] version = new int[5];
        final BitSet[] published = new BitSet[5];
        final Copy[][] copies = new Copy[5][5];
        final boolean[][] up = new boolean[5][5];
        final int[][] distance = new int[5][5];
        final int[][] counts = new int[5][7];

        World() {
            for (int i = 0; i < 5; i++) {
                held.add(new LinkedList<>());
                for (int j = 0; j < 5; j++) {
                    up[i][j] = true;
                    distance[i][j] = Math.max(i, j) - Math.min(i, j);
                }
            }
            forget();
        }

        World(World w) {
            m = w.m;
            k = w.k;
            time = w.time;
            age = w.age;
            storing = w.storing;
            limit = w.limit;
            for (int i = 0; i < 5; i++) {
                capacity[i] = w.capacity[i];
                held.add(new LinkedList<>(w.held.get(i)));
                counters[i] = w.counters[i].clone();
                version[i] = w.version[i];
                published[i] = (BitSet) w.published[i].clone();
                copies[i] = w.copies[i].clone();
                up[i] = w.up[i].clone();
                distance[i] = w.distance[i].clone();
                counts[i] = w.counts[i].clone();
            }
        }

        void forget() {
            for (int i = 0; i < 5; i++) {
                version[i] = 0;
                published[i] = new BitSet();
                for (int j = 0; j < 5; j++) {
                    copies[i][j] = Copy.FIRST;
                }
            }
        }

        int hash(int x, int f) {
            return ((x * A[f] + B[f]) % 997) % m;
        }

        void in(int cache, int x) {
            for (int f = 0; f < k; f++) {
                int c = hash(x, f);
                counters[cache][c] = Math.min(7, counters[cache][c] + 1);
            }
        }

        void out(int cache, int x) {
            held.get(cache).remove((Integer) x);
            for (int f = 0; f < k; f++) {
                int c = hash(x, f);
                if (counters[cache][c] != 0 && counters[cache][c] != 7) {
                    counters[cache][c] -= 1;
                }
            }
        }

        int put(int cache, int x) {
            LinkedList<Integer> list = held.get(cache);
            int dropped = -1;
            if (list.remove((Integer) x)) {
                list.addFirst(x);
                return dropped;
            }
            if (list.size() == capacity[cache]) {
                dropped = list.getLast();
                out(cache, dropped);
            }
            list.addFirst(x);
            in(cache, x);
            return dropped;
        }

        void rebuild(int cache) {
            counters[cache] = new int[64];
            held.get(cache).forEach(x -> in(cache, x));
        }

        BitSet bits(int cache) {
            BitSet bits = new BitSet();
            IntStream.range(0, m).filter(c -> counters[cache][c] > 0).forEach(bits::set);
            return bits;
        }

        boolean within(BitSet mask, int x) {
            return IntStream.range(0, k).allMatch(f -> mask.get(hash(x, f)));
        }

        boolean fresh(int at, int of) {
            return time - copies[at][of].time <= age && copies[at][of].version != 0;
        }

        boolean expects(int at, int of, int x) {
            return fresh(at, of) && within(copies[at][of].mask, x);
        }

        int publish(int cache) {
            BitSet now = bits(cache);
            int d = different(now, published[cache]);
            version[cache] += 1;
            published[cache] = now;
            int units = 0;
            for (int to = 0; to < 5; to++) {
                if (to == cache || !up[cache][to]) {
                    continue;
                }
                if (copies[to][cache].version == version[cache] - 1 && 1 + d < 2 + m / 4) {
                    units += 1 + d;
                } else {
                    units += 2 + m / 4;
                }
                copies[to][cache] = new Copy((BitSet) now.clone(), version[cache], time);
            }
            counts[cache][6] += units;
            return units;
        }

        int request(int c, int x, int most, Set<Integer> been) {
            int at = c;
            been.add(c);
            int server = -1;
            while (server < 0) {
                if (held.get(at).contains(x)) {
                    server = at;
                    put(at, x);
                    break;
                }
                Integer next = null;
                if (been.size() - 1 < most) {
                    int here = at;
                    next = IntStream.range(0, 5).boxed()
                        .filter(b -> !been.contains(b) && up[here][b] && expects(here, b, x))
                        .min(Comparator.<Integer>comparingInt(b -> distance[here][b]).thenComparing(b -> b))
                        .orElse(null);
                }
                if (next == null) {
                    server = 5;
                    boolean missed = IntStream.range(0, 5)
                        .anyMatch(b -> !been.contains(b) && held.get(b).contains(x));
                    counts[c][4] += missed ? 1 : 0;
                } else {
                    been.add(next);
                    at = next;
                    counts[c][5] += 1;
                    counts[c][3] += held.get(at).contains(x) ? 0 : 1;
                }
            }
            counts[c][server == c ? 0 : server < 5 ? 1 : 2] += 1;
            if (server != c && storing) {
                put(c, x);
            }
            return server;
        }
    }

    private World world = new World();
    private final Deque<World> history = new ArrayDeque<>();
    private String text = "";
    private List<Integer> way = List.of();

    private static int different(BitSet one, BitSet other) {
        BitSet both = (BitSet) one.clone();
        both.xor(other);
        return both.cardinality();
    }

    private static long number(BitSet mask) {
        long sum = 0;
        for (int c = 0; c < 64; c++) {
            sum += mask.get(c) ? 1L << c : 0;
        }
        return sum;
    }

    private static boolean cache(int c) {
        return c >= 0 && c <= 4;
    }

    private static boolean object(int x) {
        return x >= 0 && x <= 999;
    }

    private static boolean range(int n, int low, int high) {
        return n >= low && n <= high;
    }

    private void recorded() {
        history.addLast(new World(world));
        if (history.size() > 4) {
            history.removeFirst();
        }
    }

    private static int chance(int bits, int m, int k) {
        double share = Math.pow(bits, k) * 1000;
        return (int) Math.floor(share / Math.pow(m, k));
    }

    private int request(int c, int x, int most) {
        Set<Integer> been = new LinkedHashSet<>();
        int server = world.request(c, x, most, been);
        way = List.copyOf(been);
        return server;
    }

    long setFilters(int m, int k) {
        if (!range(m, 8, 64) || !range(k, 1, 4)) {
            return -3;
        }
        recorded();
        int previous = world.m;
        world.m = m;
        world.k = k;
        world.forget();
        for (int c = 0; c < 5; c++) {
            world.rebuild(c);
        }
        return previous;
    }

    long setCapacity(int c, int capacity) {
        if (!cache(c)) {
            return -2;
        }
        if (!range(capacity, 1, 16)) {
            return -3;
        }
        recorded();
        int previous = world.capacity[c];
        world.capacity[c] = capacity;
        while (world.held.get(c).size() > capacity) {
            world.out(c, world.held.get(c).getLast());
        }
        return previous;
    }

    private int pair(int a, int b) {
        return !cache(a) || !cache(b) ? -2 : a == b ? -3 : 0;
    }

    private int both(int c, int x) {
        return !cache(c) ? -2 : !object(x) ? -3 : 0;
    }

    long setLink(int from, int to, boolean up) {
        if (pair(from, to) < 0) {
            return pair(from, to);
        }
        recorded();
        boolean previous = world.up[from][to];
        world.up[from][to] = up;
        return previous ? 1 : 0;
    }

    long setDistance(int from, int to, int distance) {
        if (pair(from, to) < 0) {
            return pair(from, to);
        }
        if (!range(distance, 0, 99)) {
            return -3;
        }
        recorded();
        int previous = world.distance[from][to];
        world.distance[from][to] = distance;
        return previous;
    }

    long setRules(int age, boolean storing, int limit) {
        if (!range(age, 0, 1000) || !range(limit, 0, 4)) {
            return -3;
        }
        recorded();
        int previous = world.age;
        world.age = age;
        world.storing = storing;
        world.limit = limit;
        return previous;
    }

    long pass(int many) {
        if (!range(many, 1, 1000)) {
            return -3;
        }
        if (world.time + many > 1000000) {
            return -5;
        }
        recorded();
        world.time += many;
        return world.time;
    }

    long store(int c, int x) {
        if (both(c, x) < 0) {
            return both(c, x);
        }
        recorded();
        return world.put(c, x);
    }

    long drop(int c, int x) {
        if (both(c, x) < 0) {
            return both(c, x);
        }
        if (!world.held.get(c).contains(x)) {
            return -4;
        }
        recorded();
        world.out(c, x);
        return world.held.get(c).size();
    }

    long rebuild(int c) {
        if (!cache(c)) {
            return -2;
        }
        recorded();
        int[] before = world.counters[c];
        world.rebuild(c);
        return IntStream.range(0, 64).filter(i -> before[i] != world.counters[c][i]).count();
    }

    long size(int c) {
        return cache(c) ? world.held.get(c).size() : -2;
    }

    long held(int c, int index) {
        return cache(c) && range(index, 0, world.held.get(c).size() - 1) ? world.held.get(c).get(index) : -2;
    }

    long holds(int c, int x) {
        return both(c, x) < 0 ? both(c, x) : world.held.get(c).contains(x) ? 1 : 0;
    }

    long counter(int c, int i) {
        return cache(c) && range(i, 0, world.m - 1) ? world.counters[c][i] : -2;
    }

    long value(int x, int f) {
        return object(x) && range(f, 0, world.k - 1) ? world.hash(x, f) : -3;
    }

    long mayHold(int c, int x) {
        return both(c, x) < 0 ? both(c, x) : world.within(world.bits(c), x) ? 1 : 0;
    }

    long chance(int c) {
        return cache(c) ? chance(world.bits(c).cardinality(), world.m, world.k) : -2;
    }

    long wrong(int c) {
        return cache(c) ? IntStream.range(0, 1000)
            .filter(x -> world.within(world.bits(c), x) && !world.held.get(c).contains(x)).count() : -2;
    }

    long sized(int c, int limit) {
        if (!cache(c)) {
            return -2;
        }
        if (!range(limit, 0, 1000)) {
            return -3;
        }
        for (int m = 8; m <= 64; m++) {
            for (int k = 1; k <= 4; k++) {
                World other = new World(world);
                other.m = m;
                other.k = k;
                other.rebuild(c);
                if (chance(other.bits(c).cardinality(), m, k) <= limit) {
                    return 10 * m + k;
                }
            }
        }
        return -1;
    }

    long publish(int c) {
        if (!cache(c)) {
            return -2;
        }
        recorded();
        return world.publish(c);
    }

    long version(int c) {
        return cache(c) ? world.version[c] : -2;
    }

    long copy(int at, int of, int what) {
        if (pair(at, of) < 0) {
            return pair(at, of);
        }
        Copy copy = world.copies[at][of];
        return switch (what) {
            case 0 -> copy.version;
            case 1 -> copy.time;
            case 2 -> copy.mask.cardinality();
            case 3 -> world.fresh(at, of) ? 1 : 0;
            case 4 -> different(copy.mask, world.bits(of));
            default -> -3;
        };
    }

    long mask(int at, int of) {
        return pair(at, of) < 0 ? pair(at, of) : number(world.copies[at][of].mask);
    }

    long expects(int at, int of, int x) {
        return pair(at, of) < 0 ? pair(at, of) : !object(x) ? -3 : world.expects(at, of, x) ? 1 : 0;
    }

    long requestCall(int c, int x, int most) {
        if (both(c, x) < 0) {
            return both(c, x);
        }
        if (!range(most, 0, 4)) {
            return -3;
        }
        recorded();
        return request(c, x, most);
    }

    long way(int index) {
        return index < 0 ? -3 : index < way.size() ? way.get(index) : -1;
    }

    long count(int c, int what) {
        return !cache(c) ? -2 : !range(what, 0, 6) ? -3 : world.counts[c][what];
    }

    long wouldServe(int c, int x) {
        return both(c, x) < 0 ? both(c, x) : new World(world).request(c, x, 4, new LinkedHashSet<>());
    }

    long undo() {
        if (history.isEmpty()) {
            return -4;
        }
        world = history.removeLast();
        return history.size();
    }

    long type(int code) {
        if (!range(code, 0, 255)) {
            return -3;
        }
        if (text.length() == 100) {
            return -5;
        }
        text += (char) code;
        return text.length();
    }

    long clearText() {
        int previous = text.length();
        text = "";
        return previous;
    }

    long textFault() {
        return TextTest.faultByPattern(text);
    }

    long run() {
        if (textFault() != -1) {
            return -4;
        }
        recorded();
        int hits = 0;
        for (String part : text.replace(" ", "").split(";")) {
            String[] sides = part.split(":");
            for (String number : sides[1].split(",")) {
                hits += request(Integer.parseInt(sides[0]), Integer.parseInt(number), world.limit) == 5 ? 0 : 1;
            }
        }
        return hits;
    }

    long digest() {
        List<Long> numbers = new ArrayList<>(List.of((long) world.m, (long) world.k, (long) world.time));
        for (int c = 0; c < 5; c++) {
            numbers.add((long) world.capacity[c]);
            numbers.add(size(c));
            world.held.get(c).forEach(x -> numbers.add((long) x));
            for (int i = 0; i < world.m; i++) {
                numbers.add((long) world.counters[c][i]);
            }
            numbers.add((long) world.version[c]);
            for (int count : world.counts[c]) {
                numbers.add((long) count);
            }
            for (int of = 0; of < 5; of++) {
                if (of != c) {
                    numbers.add(mask(c, of));
                    numbers.add(copy(c, of, 0));
                    numbers.add(copy(c, of, 1));
                }
            }
        }
        return numbers.stream().reduce(17L, (h, v) -> 31 * h + v);
    }
}
