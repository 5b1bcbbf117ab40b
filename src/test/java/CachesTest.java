import java.util.LinkedList;
import java.util.List;
import java.util.Random;

/** The description's words on caches, objects, filters and masks, sentence by sentence. */
public final class CachesTest {
    private static final Check check = new Check("CachesTest");

    public static void main(String[] args) {
        tests();
        check.end();
    }

    static void tests() {
        check.says(0, "Caches, objects");
        fiveCachesAndAnOrigin();
        thousandObjects();
        timeAtFirst();
        capacities();
        capacityAtFirst();
        useMovesToTheFront();
        storeOfOneThatIsHeld();
        lastIsDroppedFirst();
        numbersOfCountersAndFunctions();
        values();
        countersAtFirst();
        countingIn();
        countingInTwice();
        countingOut();
        everyWayOfDropping();
        sevenStays();
        countersFollowTheObjects();
        bits();
        inAMask();
        copiesAtFirst();
        publishedMaskAtFirst();
    }

    private static void fiveCachesAndAnOrigin() {
        check.says(0, "There are 5 caches, numbered from 0, and an origin, numbered 5, which has all objects.");
        for (int cache = -1; cache <= 5; cache++) {
            boolean there = cache >= 0 && cache <= 4;
            DigestCaches x = new DigestCaches();
            check.due("size(" + cache + ")", x.size(cache), there ? 0 : -2);
            check.due("store(" + cache + ", 1)", x.store(cache, 1), there ? -1 : -2);
            check.due("then size(" + cache + ")", x.size(cache), there ? 1 : -2);
        }
        for (int first = 0; first < 1000; first += 250) {
            DigestCaches x = new DigestCaches();
            x.setRules(100, false, 2);
            for (int object = first; object < first + 250; object++) {
                check.due("the origin has " + object, x.request(object % 5, object, object % 5), 5);
            }
        }
    }

    private static void thousandObjects() {
        check.says(0, "Objects are numbered from 0 to 999.");
        DigestCaches x = new DigestCaches();
        check.due("store(4, 0)", x.store(4, 0), -1);
        check.due("store(4, 999)", x.store(4, 999), -1);
        check.due("store(4, -1)", x.store(4, -1), -3);
        check.due("store(4, 1000)", x.store(4, 1000), -3);
        check.due("held(4, 0)", x.held(4, 0), 999);
        check.due("held(4, 1)", x.held(4, 1), 0);
        check.due("size(4)", x.size(4), 2);
    }

    private static void timeAtFirst() {
        check.says(0, "There is a time, an int, 0 at first.");
        DigestCaches x = new DigestCaches();
        check.due("pass(1)", x.pass(1), 1);
        check.due("pass(1000)", x.pass(1000), 1001);
    }

    private static void capacities() {
        check.says(0, "A cache holds at most as many objects as its capacity, 1 to 16 (8 at first), in the order of "
            + "their use: the latest one first.");
        for (int capacity = 1; capacity <= 16; capacity++) {
            DigestCaches x = new DigestCaches();
            x.setCapacity(2, capacity);
            for (int stored = 0; stored < 20; stored++) {
                check.due("store into " + capacity, x.store(2, stored), stored < capacity ? -1 : stored - capacity);
                check.due("size with " + capacity, x.size(2), Math.min(stored + 1, capacity));
                check.due("the latest one", x.held(2, 0), stored);
                check.due("the last one", x.held(2, x.size(2) - 1), Math.max(0, stored + 1 - capacity));
            }
        }
        DigestCaches x = new DigestCaches();
        check.due("a capacity of 0", x.setCapacity(2, 0), -3);
        check.due("a capacity of 17", x.setCapacity(2, 17), -3);
    }

    private static void capacityAtFirst() {
        for (int cache = 0; cache < 5; cache++) {
            DigestCaches x = new DigestCaches();
            for (int object = 0; object < 8; object++) {
                check.due("there is room for 8", x.store(cache, object), -1);
            }
            check.due("but not for 9", x.store(cache, 8), 0);
            check.due("size", x.size(cache), 8);
        }
    }

    private static DigestCaches filledTo(int size) {
        DigestCaches x = new DigestCaches();
        x.setCapacity(0, size);
        for (int object = size - 1; object >= 0; object--) {
            x.store(0, object);
        }
        return x;
    }

    private static void order(DigestCaches x, List<Integer> due) {
        check.due("size(0)", x.size(0), due.size());
        for (int index = 0; index < due.size(); index++) {
            check.due("held(0, " + index + ")", x.held(0, index), due.get(index));
        }
    }

    /** Of a full cache the first, the last and each one between; by store, by a request and by another's request. */
    private static void useMovesToTheFront() {
        check.says(0, "To use an object that is held moves it to the front.");
        for (int size = 1; size <= 16; size += 5) {
            for (int used = 0; used < size; used++) {
                LinkedList<Integer> due = new LinkedList<>();
                for (int object = 0; object < size; object++) {
                    due.add(object);
                }
                due.remove((Integer) used);
                due.addFirst(used);
                DigestCaches stored = filledTo(size);
                check.due("store of one held", stored.store(0, used), -1);
                order(stored, due);
                DigestCaches requested = filledTo(size);
                check.due("request of one held", requested.request(0, used, 0), 0);
                order(requested, due);
                DigestCaches serving = filledTo(size);
                serving.publish(0);
                check.due("request of one held elsewhere", serving.request(3, used, 1), 0);
                order(serving, due);
            }
        }
    }

    private static void storeOfOneThatIsHeld() {
        check.says(0, "To store an object that is held means to use it.");
        DigestCaches x = new DigestCaches();
        x.setCapacity(0, 1);
        x.store(0, 17);
        check.due("store again where there is no room", x.store(0, 17), -1);
        check.due("size(0)", x.size(0), 1);
        check.due("counter(0, 22)", x.counter(0, 22), 1);
        check.due("counter(0, 28)", x.counter(0, 28), 1);
    }

    /** With 6 at a counter, one of them last: had the new one been counted in first, the counter would be 7. */
    private static void lastIsDroppedFirst() {
        check.says(0, "To store an object that is not held puts it at the front; if the cache is full, the last one is "
            + "dropped first.");
        int[] objects = Values.objectsAt(8, 1, 3, 1, 8);
        DigestCaches x = new DigestCaches();
        x.setFilters(8, 1);
        x.setCapacity(1, 6);
        for (int i = 0; i < 6; i++) {
            check.due("there is room", x.store(1, objects[i]), -1);
            check.due("it is at the front", x.held(1, 0), objects[i]);
        }
        check.due("the last one is dropped", x.store(1, objects[6]), objects[0]);
        check.due("before the new one is counted in", x.counter(1, 3), 6);
        check.due("c stores after a request", x.request(1, objects[7], 0), 5);
        check.due("in the same order", x.counter(1, 3), 6);
        check.due("the front", x.held(1, 0), objects[7]);
        check.due("the last one", x.held(1, 5), objects[2]);
    }

    private static void numbersOfCountersAndFunctions() {
        check.says(0, "All filters have M counters, 8 to 64 (32 at first), numbered from 0, and K functions, 1 to 4 "
            + "(2 at first).");
        DigestCaches x = new DigestCaches();
        check.due("the last counter at first", x.counter(4, 31), 0);
        check.due("beyond it", x.counter(4, 32), -2);
        check.due("the last function at first", x.value(0, 1), 19);
        check.due("beyond it", x.value(0, 2), -3);
        int before = 32;
        for (int m = 7; m <= 65; m++) {
            boolean there = m >= 8 && m <= 64;
            check.due("setFilters(" + m + ", 2)", x.setFilters(m, 2), there ? before : -3);
            before = there ? m : before;
            for (int cache = 0; cache < 5; cache += 4) {
                check.due("the last counter", x.counter(cache, before - 1), 0);
                check.due("beyond it", x.counter(cache, before), -2);
            }
        }
        for (int k = 0; k <= 5; k++) {
            check.due("setFilters(64, " + k + ")", x.setFilters(64, k), k >= 1 && k <= 4 ? 64 : -3);
        }
        check.due("the last function of 4", x.value(0, 3), 61);
    }

    /** All objects, with the most and the fewest counters and functions, and some between. */
    private static void values() {
        check.says(0, "The function f, from 0 to K - 1, of object x is ((x * A[f] + B[f]) modulo 997) modulo M, where "
            + "A is 31, 57, 83, 109, and B is 7, 19, 43, 61.");
        for (int m : new int[] {8, 9, 31, 32, 63, 64}) {
            for (int first = 0; first < 1000; first += 100) {
                DigestCaches x = new DigestCaches();
                x.setFilters(m, 4);
                for (int object = first; object < first + 100; object++) {
                    for (int function = 0; function < 4; function++) {
                        check.due("value(" + object + ", " + function + ") of " + m, x.value(object, function),
                            Values.value(m, object, function));
                    }
                }
            }
        }
        DigestCaches x = new DigestCaches();
        x.setFilters(64, 4);
        check.due("31 * 225 + 7 is 7 times 997 and 3", x.value(225, 0), 3);
        check.due("31 * 64 + 7 is 997 and 994", x.value(64, 0), 994 % 64);
        check.due("57 * 17 + 19 is 988", x.value(17, 1), 988 % 64);
        check.due("57 * 18 + 19 is 997 and 48", x.value(18, 1), 48);
        check.due("997 as 0", x.value(997, 3), x.value(0, 3));
        check.due("999 as 2", x.value(999, 2), x.value(2, 2));
    }

    private static void countersAtFirst() {
        check.says(0, "A counter is 0 to 7, 0 at first.");
        DigestCaches x = new DigestCaches();
        for (int cache = 0; cache < 5; cache++) {
            for (int counter = 0; counter < 32; counter++) {
                check.due("counter(" + cache + ", " + counter + ")", x.counter(cache, counter), 0);
            }
        }
        DigestCaches y = new DigestCaches();
        y.setFilters(64, 4);
        for (int counter = 0; counter < 64; counter++) {
            check.due("counter(3, " + counter + ")", y.counter(3, counter), 0);
        }
    }

    private static DigestCaches roomy(int m, int k) {
        DigestCaches x = new DigestCaches();
        x.setFilters(m, k);
        x.setCapacity(0, 16);
        return x;
    }

    private static void countingIn() {
        check.says(0, "When an object comes to be held, for each function in order the counter of its value increases "
            + "by 1, unless it is 7.");
        DigestCaches x = roomy(8, 1);
        int[] objects = Values.objectsAt(8, 1, 5, 1, 16);
        for (int i = 0; i < 16; i++) {
            x.store(0, objects[i]);
            check.due("counter(0, 5) with " + (i + 1), x.counter(0, 5), Math.min(7, i + 1));
            check.due("counter(0, 4)", x.counter(0, 4), 0);
            check.due("counter(0, 6)", x.counter(0, 6), 0);
        }
        DigestCaches y = roomy(64, 4);
        y.store(0, 17);
        for (int counter = 0; counter < 64; counter++) {
            check.due("of 17", y.counter(0, counter), Values.times(64, 4, counter, 17));
        }
    }

    /** An object whose functions have one value counts as often, also over the edge. */
    private static void countingInTwice() {
        int[] doubles = Values.objectsAt(8, 2, 1, 2, 4);
        DigestCaches x = roomy(8, 2);
        int[] due = {2, 4, 6, 7};
        for (int i = 0; i < 4; i++) {
            x.store(0, doubles[i]);
            check.due("counter(0, 1) with " + (i + 1), x.counter(0, 1), due[i]);
        }
        x.drop(0, doubles[0]);
        check.due("7 stays, though 6 are left", x.counter(0, 1), 7);
        check.due("rebuild(0)", x.rebuild(0), 1);
        check.due("6 are left", x.counter(0, 1), 6);
        int single = Values.objectsAt(8, 2, 1, 1, 1)[0];
        DigestCaches y = roomy(8, 2);
        y.store(0, single);
        for (int i = 0; i < 3; i++) {
            y.store(0, doubles[i]);
        }
        check.due("1 and three times 2", y.counter(0, 1), 7);
        y.drop(0, single);
        check.due("7 stays, though it was reached by 7 alone", y.counter(0, 1), 7);
        // No object has one value for all four functions; three are the most.
        int[] threes = Values.objectsAt(8, 4, 0, 3, 3);
        DigestCaches z = roomy(8, 4);
        int[] dueOfThrees = {3, 6, 7};
        for (int i = 0; i < 3; i++) {
            z.store(0, threes[i]);
            check.due("three at once", z.counter(0, 0), dueOfThrees[i]);
            z.drop(0, threes[i]);
            check.due("three at once go, unless it is 7", z.counter(0, 0), i < 2 ? 3 * i : 7);
            z.undo();
        }
    }

    private static void countingOut() {
        check.says(0, "When an object is dropped, for each function in order the counter of its value decreases by 1, "
            + "unless it is 0 or 7.");
        DigestCaches x = roomy(8, 1);
        int[] objects = Values.objectsAt(8, 1, 7, 1, 6);
        for (int object : objects) {
            x.store(0, object);
        }
        check.due("counter(0, 7)", x.counter(0, 7), 6);
        for (int left = 5; left >= 0; left--) {
            check.due("drop", x.drop(0, objects[left]), left);
            check.due("counter(0, 7)", x.counter(0, 7), left);
        }
        check.due("what is not held is not counted out", x.drop(0, objects[0]), -4);
        check.due("counter(0, 7)", x.counter(0, 7), 0);
    }

    private static DigestCaches withOneLast(int object) {
        DigestCaches x = roomy(64, 1);
        x.setCapacity(0, 2);
        x.store(0, object);
        x.store(0, object + 1);
        check.due("it is counted", x.counter(0, x.value(object, 0)), 1);
        return x;
    }

    private static void everyWayOfDropping() {
        DigestCaches dropped = withOneLast(10);
        dropped.drop(0, 10);
        check.due("drop", dropped.counter(0, dropped.value(10, 0)), 0);
        DigestCaches pushed = withOneLast(10);
        check.due("store of another", pushed.store(0, 20), 10);
        check.due("store of another", pushed.counter(0, pushed.value(10, 0)), 0);
        DigestCaches limited = withOneLast(10);
        limited.setCapacity(0, 1);
        check.due("setCapacity", limited.counter(0, limited.value(10, 0)), 0);
        DigestCaches requested = withOneLast(10);
        requested.request(0, 20, 0);
        check.due("a request of another", requested.counter(0, requested.value(10, 0)), 0);
        DigestCaches run = withOneLast(10);
        Check.typed(run, "0:20").run();
        check.due("a text", run.counter(0, run.value(10, 0)), 0);
        check.due("held(0, 1)", run.held(0, 1), 11);
    }

    private static void sevenStays() {
        check.says(0, "(So a counter that is 7 stays 7, until the filter is rebuilt: all counters become 0, and then "
            + "each object that is held is counted in, the latest one first.)");
        int[] objects = Values.objectsAt(8, 1, 0, 1, 9);
        for (int stored = 7; stored <= 9; stored++) {
            DigestCaches x = roomy(8, 1);
            for (int i = 0; i < stored; i++) {
                x.store(0, objects[i]);
            }
            for (int left = stored - 1; left >= 0; left--) {
                x.drop(0, objects[left]);
                check.due("it stays", x.counter(0, 0), 7);
                x.rebuild(0);
                check.due("rebuilt it counts what is held", x.counter(0, 0), Math.min(7, left));
                x.undo();
            }
            check.due("then it stays for new ones too", x.store(0, objects[0]), -1);
            check.due("it stays", x.counter(0, 0), 7);
            check.due("setFilters rebuilds", x.setFilters(8, 1), 8);
            check.due("1 is held", x.counter(0, 0), 1);
        }
    }

    /** However objects come and go, a counter is what the held ones make it, or it is a 7 that stayed. */
    private static void countersFollowTheObjects() {
        for (int seed = 0; seed < 40; seed++) {
            Random random = new Random(seed);
            int m = 8 + random.nextInt(3) * random.nextInt(20);
            int k = 1 + random.nextInt(4);
            DigestCaches x = roomy(m, k);
            for (int call = 0; call < 60; call++) {
                if (random.nextInt(3) == 0 && x.size(0) > 0) {
                    x.drop(0, x.held(0, random.nextInt(x.size(0))));
                } else {
                    x.store(0, random.nextInt(1000));
                }
            }
            for (int counter = 0; counter < m; counter++) {
                int due = 0;
                for (int index = 0; index < x.size(0); index++) {
                    due += Values.times(m, k, counter, x.held(0, index));
                }
                int got = x.counter(0, counter);
                check.holds("counter " + counter + " is " + got + ", for " + due, got == 7 || got == due);
            }
        }
    }

    private static void bits() {
        check.says(0, "The bits of a filter are the mask (a long) with the sum of 2^c for each counter c above 0 "
            + "(2^63 counts as Long.MIN_VALUE).");
        long due = 0;
        DigestCaches all = new DigestCaches();
        all.setFilters(64, 1);
        for (int counter = 0; counter < 64; counter++) {
            int object = Values.objectsAt(64, 1, counter, 1, 1)[0];
            DigestCaches x = new DigestCaches();
            x.setFilters(64, 1);
            x.store(2, object);
            x.publish(2);
            check.due("the bit " + counter, x.mask(3, 2), counter == 63 ? Long.MIN_VALUE : 1L << counter);
            all.store(counter / 16, object);
            all.setCapacity(counter / 16, 16);
        }
        for (int cache = 0; cache < 4; cache++) {
            all.publish(cache);
            due |= all.mask(4, cache);
            check.due("16 bits", all.mask(4, cache), 0xFFFFL << 16 * cache);
        }
        check.due("all 64 bits", due, -1);
        DigestCaches x = roomy(8, 1);
        for (int object : Values.objectsAt(8, 1, 7, 1, 9)) {
            x.store(0, object);
            x.publish(0);
            check.due("the bit is the same for 1 and for 7", x.mask(1, 0), 128);
        }
    }

    /** For each number of functions: each mask that lacks one of the object's bits, and the one that has all. */
    private static void inAMask() {
        check.says(0, "An object is in a mask if for each function the bit of its value is set.");
        int object = 17;
        for (int k = 1; k <= 4; k++) {
            for (int lacking = -1; lacking < k; lacking++) {
                DigestCaches x = new DigestCaches();
                x.setFilters(64, k);
                x.setCapacity(0, 16);
                for (int function = 0; function < k; function++) {
                    if (function != lacking) {
                        x.store(0, otherAt(k, object, function, lacking));
                    }
                }
                x.publish(0);
                String which = k + " functions, without that of " + lacking;
                check.due("mayHold with " + which, x.mayHold(0, object), lacking < 0 ? 1 : 0);
                check.due("expects with " + which, x.expects(1, 0, object), lacking < 0 ? 1 : 0);
            }
        }
    }

    /** Another object that sets the bit of a function of this one, and not that of the function that is lacking. */
    private static int otherAt(int k, int object, int function, int lacking) {
        int wanted = Values.value(64, object, function);
        for (int other = 0; other < 1000; other++) {
            boolean spares = lacking < 0 || Values.times(64, k, Values.value(64, object, lacking), other) == 0;
            if (other != object && spares && Values.times(64, k, wanted, other) > 0) {
                return other;
            }
        }
        return -1;
    }

    private static void copiesAtFirst() {
        check.says(0, "Each cache a has, for each other cache b, a copy of b's digest: a mask, with a version and a "
            + "time; at first the mask is 0, the version 0, the time 0.");
        DigestCaches x = new DigestCaches();
        x.pass(9);
        Check.pairs((at, of) -> {
            check.due("mask at first", x.mask(at, of), 0);
            check.due("version at first", x.copy(at, of, 0), 0);
            check.due("time at first", x.copy(at, of, 1), 0);
        });
        for (int cache = 0; cache < 5; cache++) {
            check.due("of itself it has none", x.copy(cache, cache, 0), -3);
            check.due("nor of the origin", x.copy(cache, 5, 0), -2);
        }
    }

    private static void publishedMaskAtFirst() {
        check.says(0, "Each cache has a version, 0 at first, and a published mask, 0 at first.");
        for (int cache = 0; cache < 5; cache++) {
            DigestCaches x = new DigestCaches();
            check.due("version(" + cache + ")", x.version(cache), 0);
            x.store(cache, 17);
            check.due("two bits are different from the mask at first", x.publish(cache), 4 * 3);
            check.due("version(" + cache + ")", x.version(cache), 1);
        }
    }
}
