import java.util.Random;

/** Runs of at most 512 calls on new objects, each answer compared with the model's. */
public final class ModelTest {
    private static final int RUNS = 1200;
    private static final int CALLS = 512;
    private static final String SIGNS = "0123456789:,; x";

    private final Check check;
    private final Random random;
    private final DigestCaches x = new DigestCaches();
    private final Model model = new Model();
    private final int[] weights = new int[33];
    private final int objects;
    private final int wrongs;
    private String pending = "";
    private int calls;

    private ModelTest(Check check, int seed) {
        this.check = check;
        this.random = new Random(seed);
        // Few objects make hits, many make false hits; each run prefers some kinds of calls.
        objects = new int[] {4, 10, 30, 1000}[random.nextInt(4)];
        wrongs = new int[] {0, 60, 12}[random.nextInt(3)];
        for (int i = 0; i < weights.length; i++) {
            weights[i] = 1 + random.nextInt(6) * random.nextInt(6);
        }
        weights[0] = random.nextInt(3);
    }

    public static void main(String[] args) {
        Check check = new Check("ModelTest");
        for (int seed = 0; seed < RUNS; seed++) {
            ModelTest run = new ModelTest(check, seed);
            // A step makes 20 calls at most, and one for the hash.
            for (int step = 0; step < CALLS && run.calls <= CALLS - 21; step++) {
                run.step("run " + seed + ", call " + run.calls);
            }
        }
        check.end();
    }

    /** A number of the range, now and then one beside it or far from it. */
    private int pick(int low, int high) {
        if (wrongs > 0 && random.nextInt(wrongs) == 0) {
            int[] beside = {low - 1, high + 1, Integer.MIN_VALUE, Integer.MAX_VALUE, -high, 0};
            return beside[random.nextInt(beside.length)];
        }
        int edge = random.nextInt(12);
        return edge == 0 ? low : edge == 1 ? high : low + random.nextInt(high - low + 1);
    }

    private int cache() {
        return pick(0, 4);
    }

    private int object() {
        return random.nextInt(9) == 0 ? pick(0, 999) : pick(0, objects - 1);
    }

    private int kind() {
        int sum = 0;
        for (int weight : weights) {
            sum += weight;
        }
        int left = random.nextInt(sum);
        int kind = 0;
        while (left >= weights[kind]) {
            left -= weights[kind];
            kind++;
        }
        return kind;
    }

    private String newText() {
        StringBuilder made = new StringBuilder();
        int parts = 1 + random.nextInt(3);
        for (int i = 0; i < parts; i++) {
            made.append(i == 0 ? "" : ";").append(random.nextInt(5)).append(random.nextInt(4) == 0 ? " :" : ":");
            made.append(random.nextInt(objects));
            while (random.nextBoolean()) {
                made.append(random.nextInt(4) == 0 ? " , " : ",").append(random.nextInt(objects));
            }
        }
        return made.toString();
    }

    /** Types what is pending of a text; most texts are right, and some bytes are any. */
    private int code() {
        if (random.nextInt(40) == 0) {
            return pick(0, 255);
        }
        if (random.nextInt(40) == 0) {
            return SIGNS.charAt(random.nextInt(SIGNS.length()));
        }
        if (pending.isEmpty()) {
            pending = (random.nextInt(3) == 0 ? ";" : ",") + random.nextInt(objects);
        }
        int code = pending.charAt(0);
        pending = pending.substring(1);
        return code;
    }

    private void due(String call, long got, long want) {
        calls++;
        check.due(call, got, want);
    }

    private void step(String place) {
        int kind = kind();
        if (kind < 12) {
            change(place, kind);
        } else if (kind < 24) {
            ask(place, kind);
        } else {
            request(place, kind);
        }
        // Now and then all of the state is compared, for a fault that no answer has shown yet.
        if (random.nextInt(10) == 0) {
            due(place + ": digest()", x.digest(), model.digest());
        }
    }

    private void change(String place, int kind) {
        int a = cache();
        int b = cache();
        int n;
        int m;
        boolean flag = random.nextInt(3) != 0;
        switch (kind) {
            case 0 -> {
                n = random.nextInt(3) == 0 ? pick(8, 10) : pick(8, 64);
                m = pick(1, 4);
                due(place + ": setFilters(" + n + ", " + m + ")", x.setFilters(n, m), model.setFilters(n, m));
            }
            case 1 -> {
                n = pick(1, 16);
                due(place + ": setCapacity(" + a + ", " + n + ")", x.setCapacity(a, n), model.setCapacity(a, n));
            }
            case 2 -> due(place + ": setLink(" + a + ", " + b + ", " + flag + ")",
                x.setLink(a, b, flag), model.setLink(a, b, flag));
            case 3 -> {
                n = random.nextBoolean() ? pick(0, 3) : pick(0, 99);
                due(place + ": setDistance(" + a + ", " + b + ", " + n + ")",
                    x.setDistance(a, b, n), model.setDistance(a, b, n));
            }
            case 4 -> {
                n = random.nextBoolean() ? pick(0, 1000) : pick(0, 20);
                m = pick(0, 4);
                due(place + ": setRules(" + n + ", " + flag + ", " + m + ")",
                    x.setRules(n, flag, m), model.setRules(n, flag, m));
            }
            case 5 -> {
                n = random.nextInt(5) == 0 ? pick(1, 1000) : pick(1, 10);
                due(place + ": pass(" + n + ")", x.pass(n), model.pass(n));
            }
            case 6, 7, 8 -> {
                n = object();
                due(place + ": store(" + a + ", " + n + ")", x.store(a, n), model.store(a, n));
            }
            case 9 -> {
                n = object();
                due(place + ": drop(" + a + ", " + n + ")", x.drop(a, n), model.drop(a, n));
            }
            case 10 -> due(place + ": rebuild(" + a + ")", x.rebuild(a), model.rebuild(a));
            default -> due(place + ": publish(" + a + ")", x.publish(a), model.publish(a));
        }
    }

    private void ask(String place, int kind) {
        int a = cache();
        int b = cache();
        int n;
        switch (kind) {
            case 12 -> due(place + ": size(" + a + ")", x.size(a), model.size(a));
            case 13 -> {
                n = pick(0, 15);
                due(place + ": held(" + a + ", " + n + ")", x.held(a, n), model.held(a, n));
            }
            case 14 -> {
                n = object();
                due(place + ": holds(" + a + ", " + n + ")", x.holds(a, n), model.holds(a, n));
            }
            case 15 -> {
                n = pick(0, 63);
                due(place + ": counter(" + a + ", " + n + ")", x.counter(a, n), model.counter(a, n));
            }
            case 16 -> {
                n = pick(0, 999);
                b = pick(0, 3);
                due(place + ": value(" + n + ", " + b + ")", x.value(n, b), model.value(n, b));
            }
            case 17 -> {
                n = object();
                due(place + ": mayHold(" + a + ", " + n + ")", x.mayHold(a, n), model.mayHold(a, n));
            }
            case 18 -> due(place + ": chance(" + a + ")", x.chance(a), model.chance(a));
            case 19 -> askSlowly(place, a);
            case 20 -> due(place + ": version(" + a + ")", x.version(a), model.version(a));
            case 21 -> {
                n = pick(0, 4);
                due(place + ": copy(" + a + ", " + b + ", " + n + ")", x.copy(a, b, n), model.copy(a, b, n));
            }
            case 22 -> due(place + ": mask(" + a + ", " + b + ")", x.mask(a, b), model.mask(a, b));
            default -> {
                n = object();
                due(place + ": expects(" + a + ", " + b + ", " + n + ")", x.expects(a, b, n), model.expects(a, b, n));
            }
        }
    }

    /** The model is slow in these, so they are asked less often. */
    private void askSlowly(String place, int a) {
        int choice = random.nextInt(20);
        int n = random.nextBoolean() ? pick(0, 1000) : pick(0, 60);
        if (choice == 0) {
            due(place + ": wrong(" + a + ")", x.wrong(a), model.wrong(a));
        } else if (choice < 4) {
            due(place + ": sized(" + a + ", " + n + ")", x.sized(a, n), model.sized(a, n));
        }
    }

    private void request(String place, int kind) {
        int a = cache();
        int n = object();
        switch (kind) {
            case 24, 25, 26 -> {
                int limit = pick(0, 4);
                due(place + ": request(" + a + ", " + n + ", " + limit + ")",
                    x.request(a, n, limit), model.requestCall(a, n, limit));
            }
            case 27 -> {
                n = pick(0, 4);
                due(place + ": way(" + n + ")", x.way(n), model.way(n));
            }
            case 28 -> {
                n = pick(0, 6);
                due(place + ": count(" + a + ", " + n + ")", x.count(a, n), model.count(a, n));
            }
            case 29 -> due(place + ": wouldServe(" + a + ", " + n + ")", x.wouldServe(a, n), model.wouldServe(a, n));
            case 30 -> due(place + ": undo()", x.undo(), model.undo());
            case 31 -> {
                int most = 1 + random.nextInt(20);
                for (int i = 0; i < most; i++) {
                    int code = code();
                    due(place + ": type(" + code + ")", x.type(code), model.type(code));
                }
            }
            default -> text(place);
        }
    }

    private void text(String place) {
        switch (random.nextInt(5)) {
            case 0 -> {
                due(place + ": clearText()", x.clearText(), model.clearText());
                pending = newText();
            }
            case 1 -> due(place + ": textFault()", x.textFault(), model.textFault());
            default -> due(place + ": run()", x.run(), model.run());
        }
    }
}
