/** Promises 1 to 7: a new object and its settings. */
public final class SettingsTest {
    private static final Check check = new Check("SettingsTest");

    public static void main(String[] args) {
        tests();
        check.end();
    }

    static void tests() {
        newObject();
        newObjectsRules();
        setFilters();
        setFiltersForgetsDigests();
        setFiltersRebuilds();
        setFiltersOfAllCaches();
        setCapacity();
        setCapacityToEach();
        setLink();
        setDistance();
        distancesAtFirst();
        setRules();
        setRulesBounds();
        setRulesIsUndone();
        pass();
        passIsFull();
    }

    private static void newObject() {
        check.says(1, "Creates the caches with the settings that are described, which hold nothing, and an empty text.");
        DigestCaches x = new DigestCaches();
        check.due("new digest()", x.digest(), 2999807156417103045L);
        for (int cache = 0; cache < 5; cache++) {
            check.due("new size", x.size(cache), 0);
            check.due("new version", x.version(cache), 0);
            check.due("new held", x.held(cache, 0), -2);
            for (int counter = 0; counter < 32; counter++) {
                check.due("new counter", x.counter(cache, counter), 0);
            }
            check.due("new counter 32", x.counter(cache, 32), -2);
            for (int what = 0; what < 7; what++) {
                check.due("new count", x.count(cache, what), 0);
            }
        }
        Check.pairs((at, of) -> {
            check.due("new mask", x.mask(at, of), 0);
            for (int what = 0; what < 5; what++) {
                check.due("new copy " + what, x.copy(at, of, what), 0);
            }
        });
        check.due("new way(0)", x.way(0), -1);
        check.due("new undo()", x.undo(), -4);
        check.due("new textFault()", x.textFault(), 0);
        check.due("new clearText()", x.clearText(), 0);
    }

    private static void newObjectsRules() {
        DigestCaches x = new DigestCaches();
        check.due("value of the last function", x.value(0, 1), 19);
        check.due("value beyond the functions", x.value(0, 2), -3);
        for (int cache = 0; cache < 5; cache++) {
            check.due("first capacity", x.setCapacity(cache, 9), 8);
        }
        Check.pairs((from, to) -> {
            check.due("first link", x.setLink(from, to, true), 1);
            check.due("first distance", x.setDistance(from, to, 0), Math.abs(from - to));
        });
        check.due("first request", x.request(0, 5, 0), 5);
        check.due("storing is on at first", x.holds(0, 5), 1);
        check.due("first time", x.pass(1), 1);
        check.due("first age", x.setRules(0, true, 0), 100);
    }

    private static void setFilters() {
        check.says(2, "Returns the previous M; BAD_VALUE if an argument is out of range.");
        DigestCaches x = new DigestCaches();
        check.due("setFilters(64, 4)", x.setFilters(64, 4), 32);
        check.due("value(0, 3)", x.value(0, 3), 61);
        check.due("counter(0, 63)", x.counter(0, 63), 0);
        check.due("setFilters(8, 1)", x.setFilters(8, 1), 64);
        check.due("value(0, 1)", x.value(0, 1), -3);
        check.due("counter(0, 8)", x.counter(0, 8), -2);
        long before = x.digest();
        check.refused("setFilters(7, 1)", x, x.setFilters(7, 1), -3, before);
        check.refused("setFilters(65, 1)", x, x.setFilters(65, 1), -3, before);
        check.refused("setFilters(8, 0)", x, x.setFilters(8, 0), -3, before);
        check.refused("setFilters(8, 5)", x, x.setFilters(8, 5), -3, before);
        check.refused("setFilters(min, max)", x, x.setFilters(Integer.MIN_VALUE, Integer.MAX_VALUE), -3, before);
        check.due("undo of the second", x.undo(), 1);
        check.due("M is 64 again", x.counter(0, 63), 0);
        check.due("undo of the first", x.undo(), 0);
        check.due("M is 32 again", x.setFilters(32, 2), 32);
    }

    private static void setFiltersForgetsDigests() {
        check.says(2, "Sets the filters of all caches: they are rebuilt, and all published masks, versions and copies "
            + "become as at first. Recorded.");
        DigestCaches x = new DigestCaches();
        x.pass(5);
        x.store(0, 17);
        check.due("publish(0)", x.publish(0), 12);
        check.due("mask(3, 0)", x.mask(3, 0), (1L << 22) + (1L << 28));
        check.due("setFilters to the same", x.setFilters(32, 2), 32);
        check.due("version is 0 again", x.version(0), 0);
        for (int at = 1; at < 5; at++) {
            check.due("mask is 0 again", x.mask(at, 0), 0);
            check.due("copy's version is 0 again", x.copy(at, 0, 0), 0);
            check.due("copy's time is 0 again", x.copy(at, 0, 1), 0);
        }
        check.due("the units stay counted", x.count(0, 6), 12);
        check.due("the object stays", x.holds(0, 17), 1);
        check.due("the time stays: 2 changes from the mask 0", x.publish(0), 12);
        check.due("copy's time", x.copy(1, 0, 1), 5);
    }

    private static void setFiltersRebuilds() {
        DigestCaches x = new DigestCaches();
        x.store(2, 17);
        x.setFilters(64, 4);
        int[] set = {22, 28, 9, 21};
        for (int counter : set) {
            check.due("counter " + counter, x.counter(2, counter), 1);
        }
        x.setFilters(8, 1);
        check.due("counter(2, 6)", x.counter(2, 6), 1);
        check.due("counter(2, 4)", x.counter(2, 4), 0);
        x.setFilters(64, 1);
        check.due("old counters are gone", x.counter(2, 28), 0);
        check.due("counter(2, 22)", x.counter(2, 22), 1);
    }

    /** Stuck counters, digests and copies of each cache, and none of them is left. */
    private static void setFiltersOfAllCaches() {
        DigestCaches x = new DigestCaches();
        x.setFilters(8, 1);
        int[] objects = Values.objectsAt(8, 1, 2, 1, 8);
        for (int cache = 0; cache < 5; cache++) {
            for (int object : objects) {
                x.store(cache, object);
            }
            x.setCapacity(cache, 1);
            x.publish(cache);
            check.due("it is stuck", x.counter(cache, 2), 7);
        }
        check.due("setFilters(8, 1)", x.setFilters(8, 1), 8);
        for (int cache = 0; cache < 5; cache++) {
            check.due("rebuilt", x.counter(cache, 2), 1);
            check.due("version(" + cache + ")", x.version(cache), 0);
            check.due("size(" + cache + ")", x.size(cache), 1);
        }
        Check.pairs((at, of) -> {
            check.due("mask as at first", x.mask(at, of), 0);
            check.due("copy's version as at first", x.copy(at, of, 0), 0);
            check.due("copy's time as at first", x.copy(at, of, 1), 0);
        });
        for (int cache = 0; cache < 5; cache++) {
            check.due("the published mask was as at first: 1 change", x.publish(cache), 4 * 2);
        }
    }

    /** From a full cache to each smaller capacity, and back up, which brings nothing back. */
    private static void setCapacityToEach() {
        for (int capacity = 1; capacity <= 16; capacity++) {
            DigestCaches x = new DigestCaches();
            check.due("of an empty cache", x.setCapacity(4, 16), 8);
            for (int object = 0; object < 16; object++) {
                x.store(4, object);
            }
            check.due("setCapacity(4, " + capacity + ")", x.setCapacity(4, capacity), 16);
            check.due("size(4)", x.size(4), capacity);
            check.due("the latest one stays", x.held(4, 0), 15);
            check.due("the last one", x.held(4, capacity - 1), 16 - capacity);
            check.due("the same again", x.setCapacity(4, capacity), capacity);
            check.due("size(4)", x.size(4), capacity);
            check.due("more room", x.setCapacity(4, 16), capacity);
            check.due("size(4)", x.size(4), capacity);
            check.due("other caches", x.setCapacity(3, 1), 8);
        }
    }

    private static void distancesAtFirst() {
        check.says(0, "Distances from caches to other ones are 0 to 99; at first the distance is the absolute value of the "
            + "difference of their numbers.");
        Check.pairs((from, to) -> {
            DigestCaches x = new DigestCaches();
            check.due("at first", x.setDistance(from, to, 99), Math.max(from, to) - Math.min(from, to));
            check.due("too far", x.setDistance(from, to, 100), -3);
            check.due("too near", x.setDistance(from, to, -1), -3);
            check.due("it is 99", x.setDistance(from, to, 0), 99);
            check.due("it is 0", x.setDistance(from, to, 0), 0);
            check.due("the other way", x.setDistance(to, from, 1), Math.max(from, to) - Math.min(from, to));
        });
    }

    private static void setCapacity() {
        check.says(3, "Sets the capacity of a cache; as long as it holds more objects, the last one is dropped. Recorded.",
            "Returns the previous capacity; BAD_INDEX if there is no such cache; BAD_VALUE if capacity is out of range.");
        DigestCaches x = new DigestCaches();
        check.due("setCapacity(1, 16)", x.setCapacity(1, 16), 8);
        for (int object = 0; object < 17; object++) {
            check.due("store " + object, x.store(1, object), object < 16 ? -1 : 0);
        }
        long full = x.digest();
        check.refused("setCapacity(-1, 1)", x, x.setCapacity(-1, 1), -2, full);
        check.refused("setCapacity(5, 99)", x, x.setCapacity(5, 99), -2, full);
        check.refused("setCapacity(1, 0)", x, x.setCapacity(1, 0), -3, full);
        check.refused("setCapacity(1, 17)", x, x.setCapacity(1, 17), -3, full);
        check.due("setCapacity(1, 2)", x.setCapacity(1, 2), 16);
        check.due("size(1)", x.size(1), 2);
        check.due("held(1, 0)", x.held(1, 0), 16);
        check.due("held(1, 1)", x.held(1, 1), 15);
        int sum = 0;
        for (int counter = 0; counter < 32; counter++) {
            sum += x.counter(1, counter);
        }
        check.due("what is dropped is counted out", sum, 4);
        check.due("other caches keep theirs", x.setCapacity(0, 3), 8);
        x.undo();
        x.undo();
        check.due("undo brings back what was dropped", x.digest(), full);
        check.due("to the same capacity", x.setCapacity(1, 16), 16);
        check.due("nothing is dropped", x.size(1), 16);
    }

    private static void setLink() {
        check.says(4, "Sets a link. Recorded.", "Returns 1 if it was up, else 0; BAD_INDEX if there is no such cache "
            + "(either one); BAD_VALUE if both are the same.");
        DigestCaches x = new DigestCaches();
        check.due("setLink(0, 1, false)", x.setLink(0, 1, false), 1);
        check.due("setLink(0, 1, false) again", x.setLink(0, 1, false), 0);
        check.due("links are directed", x.setLink(1, 0, true), 1);
        check.due("setLink(-1, 0)", x.setLink(-1, 0, true), -2);
        check.due("setLink(0, 5)", x.setLink(0, 5, true), -2);
        check.due("setLink(7, 7)", x.setLink(7, 7, true), -2);
        check.due("setLink(3, 3)", x.setLink(3, 3, true), -3);
        check.due("only three are recorded", x.undo(), 2);
        check.due("undo to the first", x.undo(), 1);
        check.due("it is still down", x.setLink(0, 1, true), 0);
        x.undo();
        x.undo();
        check.due("it is up", x.setLink(0, 1, true), 1);
    }

    private static void setDistance() {
        check.says(5, "Sets the distance from a cache to another one. Recorded.", "Returns the previous distance; "
            + "BAD_INDEX if there is no such cache (either one); BAD_VALUE if both are the same, or distance is out of "
            + "range.");
        DigestCaches x = new DigestCaches();
        check.due("setDistance(0, 4, 99)", x.setDistance(0, 4, 99), 4);
        check.due("setDistance(0, 4, 0)", x.setDistance(0, 4, 0), 99);
        check.due("the other way", x.setDistance(4, 0, 7), 4);
        check.due("setDistance(5, 5, -1)", x.setDistance(5, 5, -1), -2);
        check.due("setDistance(0, -1, 3)", x.setDistance(0, -1, 3), -2);
        check.due("setDistance(2, 2, 3)", x.setDistance(2, 2, 3), -3);
        check.due("setDistance(2, 3, -1)", x.setDistance(2, 3, -1), -3);
        check.due("setDistance(2, 3, 100)", x.setDistance(2, 3, 100), -3);
        check.due("undo()", x.undo(), 2);
        check.due("undo()", x.undo(), 1);
        check.due("99 again", x.setDistance(0, 4, 1), 99);
    }

    private static void setRules() {
        check.says(6, "Sets the age, whether requests store, and the limit of hops for texts. Recorded.");
        DigestCaches x = new DigestCaches();
        check.due("setRules(10, false, 0)", x.setRules(10, false, 0), 100);
        x.request(0, 1, 0);
        check.due("storing is off", x.size(0), 0);
        x.store(1, 17);
        x.publish(1);
        check.due("text without hops", Check.typed(x, "0:17").run(), 0);
        check.due("hops", x.count(0, 5), 0);
        check.due("setRules(9, true, 1)", x.setRules(9, true, 1), 10);
        check.due("text with a hop", x.run(), 1);
        check.due("hops", x.count(0, 5), 1);
        check.due("storing is on", x.holds(0, 17), 1);
        x.pass(9);
        check.due("fresh at the age", x.copy(0, 1, 3), 1);
        x.pass(1);
        check.due("not fresh beyond", x.copy(0, 1, 3), 0);
    }

    private static void setRulesBounds() {
        check.says(6, "Returns the previous age; BAD_VALUE if age or limit is out of range.");
        DigestCaches x = new DigestCaches();
        check.due("setRules(-1, ..)", x.setRules(-1, true, 0), -3);
        check.due("setRules(1001, ..)", x.setRules(1001, true, 0), -3);
        check.due("setRules(.., -1)", x.setRules(0, true, -1), -3);
        check.due("setRules(.., 5)", x.setRules(0, true, 5), -3);
        check.due("errors are not recorded", x.undo(), -4);
        check.due("setRules(1000, false, 4)", x.setRules(1000, false, 4), 100);
        check.due("setRules(0, false, 0)", x.setRules(0, false, 0), 1000);
        check.due("undo()", x.undo(), 1);
        check.due("setRules(0, true, 0)", x.setRules(0, true, 0), 1000);
    }

    private static void setRulesIsUndone() {
        DigestCaches x = new DigestCaches();
        x.store(1, 17);
        x.publish(1);
        x.setRules(5, false, 0);
        check.due("undo()", x.undo(), 2);
        check.due("the limit is 2 again", Check.typed(x, "0:17").run(), 1);
        check.due("storing is on again", x.size(0), 1);
        check.due("the age is 100 again", x.setRules(100, true, 2), 100);
    }

    private static void pass() {
        check.says(7, "Lets time pass. Recorded.");
        DigestCaches x = new DigestCaches();
        check.due("pass(1)", x.pass(1), 1);
        check.due("pass(1000)", x.pass(1000), 1001);
        check.due("pass(0)", x.pass(0), -3);
        check.due("pass(-5)", x.pass(-5), -3);
        check.due("pass(1001)", x.pass(1001), -3);
        check.due("undo()", x.undo(), 1);
        check.due("pass(2)", x.pass(2), 3);
    }

    /** 512 calls do not reach the limit of the time; the class keeps it beyond them all the same. */
    private static void passIsFull() {
        check.says(7, "Returns the time then; BAD_VALUE if many is out of range; FULL if it would be above 1000000.");
        DigestCaches x = new DigestCaches();
        for (int i = 0; i < 999; i++) {
            x.pass(1000);
        }
        check.due("pass(999)", x.pass(999), 999999);
        check.due("pass(2)", x.pass(2), -5);
        check.due("pass(1001)", x.pass(1001), -3);
        check.due("pass(1)", x.pass(1), 1000000);
        check.due("pass(1) again", x.pass(1), -5);
    }
}
