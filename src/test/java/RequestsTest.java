import java.util.Arrays;

/** Promises 25 to 29 and 34: requests, their ways and counts, the history, the hash. */
public final class RequestsTest {
    private static final Check check = new Check("RequestsTest");

    public static void main(String[] args) {
        tests();
        check.end();
    }

    static void tests() {
        ownObject();
        otherCache();
        origin();
        falseHitAndMiss();
        falseMissAtTheLimit();
        noFalseMissWhereItWas();
        nearestFirst();
        tiesAndLinks();
        distanceFromWhereItIs();
        storingDrops();
        requestWrong();
        way();
        count();
        wouldServe();
        wouldServeAtEachCache();
        undoRestoresAll();
        undoKeepsFour();
        digest();
    }

    private static void ownObject() {
        DigestCaches x = new DigestCaches();
        x.store(2, 17);
        x.store(2, 18);
        check.due("request(2, 17, 4)", x.request(2, 17, 4), 2);
        check.due("it is used", x.held(2, 0), 17);
        check.counts(x, 2, 1, 0, 0, 0, 0, 0, 0);
        check.route(x, 2);
    }

    private static void otherCache() {
        DigestCaches x = new DigestCaches();
        x.store(4, 17);
        x.store(4, 18);
        x.publish(4);
        check.due("request(0, 17, 1)", x.request(0, 17, 1), 4);
        check.due("the one that serves uses it", x.held(4, 0), 17);
        check.due("c stores it", x.held(0, 0), 17);
        check.counts(x, 0, 0, 1, 0, 0, 0, 1, 0);
        check.counts(x, 4, 0, 0, 0, 0, 0, 0, 16 + 4);
        check.route(x, 0, 4);
        x.setRules(100, false, 2);
        check.due("request(1, 17, 1)", x.request(1, 17, 1), 4);
        check.due("storing is off", x.size(1), 0);
    }

    private static void origin() {
        DigestCaches x = new DigestCaches();
        check.due("request(3, 999, 4)", x.request(3, 999, 4), 5);
        check.due("c stores it", x.held(3, 0), 999);
        check.counts(x, 3, 0, 0, 1, 0, 0, 0, 0);
        check.route(x, 3);
        x.setRules(100, false, 2);
        check.due("request(3, 1, 0)", x.request(3, 1, 0), 5);
        check.due("storing is off", x.size(3), 1);
    }

    private static void falseHitAndMiss() {
        DigestCaches x = Check.wronglyExpected(17, 1);
        x.store(4, 17);
        check.due("request(0, 17, 4)", x.request(0, 17, 4), 5);
        check.counts(x, 0, 0, 0, 1, 1, 1, 1, 0);
        check.counts(x, 1, 0, 0, 0, 0, 0, 0, 12);
        check.route(x, 0, 1);
        check.due("where it was not, it is not stored", x.size(1), 0);
    }

    private static void falseMissAtTheLimit() {
        DigestCaches x = new DigestCaches();
        x.store(1, 17);
        x.publish(1);
        check.due("request(0, 17, 0)", x.request(0, 17, 0), 5);
        check.counts(x, 0, 0, 0, 1, 0, 1, 0, 0);
        check.route(x, 0);
        check.due("request(0, 17, 0), now held", x.request(0, 17, 0), 0);
        DigestCaches y = Check.wronglyExpected(17, 0, 1, 2, 3, 4);
        for (int limit = 0; limit <= 4; limit++) {
            int[] due = {0, 1, 2, 3, 4};
            y.setRules(100, false, 2);
            check.due("request(0, 17, " + limit + ")", y.request(0, 17, limit), 5);
            check.route(y, Arrays.copyOf(due, limit + 1));
        }
        check.counts(y, 0, 0, 0, 5, 10, 0, 10);
    }

    private static void noFalseMissWhereItWas() {
        DigestCaches x = Check.wronglyExpected(17, 1, 2);
        check.due("nobody holds it", x.request(0, 17, 4), 5);
        check.counts(x, 0, 0, 0, 1, 2, 0, 2, 0);
        x.drop(0, 17);
        x.setLink(0, 3, false);
        x.store(3, 17);
        check.due("a cache behind a link that is down", x.request(0, 17, 1), 5);
        check.counts(x, 0, 0, 0, 2, 3, 1, 3, 0);
    }

    private static void nearestFirst() {
        DigestCaches x = new DigestCaches();
        for (int cache = 1; cache < 5; cache++) {
            x.store(cache, 17);
            x.publish(cache);
        }
        x.setRules(100, false, 2);
        check.due("the nearest of four", x.request(0, 17, 1), 1);
        x.setDistance(0, 3, 0);
        check.due("another one is nearer", x.request(0, 17, 1), 3);
        x.setDistance(0, 1, 99);
        x.setDistance(0, 3, 99);
        x.setDistance(0, 2, 98);
        x.setDistance(0, 4, 97);
        check.due("the nearest of far ones", x.request(0, 17, 1), 4);
        x.setDistance(0, 4, 99);
        x.setDistance(0, 2, 99);
        check.due("all at 99", x.request(0, 17, 1), 1);
    }

    private static void tiesAndLinks() {
        DigestCaches x = new DigestCaches();
        for (int cache = 0; cache < 5; cache++) {
            if (cache != 2) {
                x.store(cache, 17);
                x.publish(cache);
            }
        }
        x.setRules(100, false, 2);
        check.due("1 and 3 are as near", x.request(2, 17, 1), 1);
        x.setLink(2, 1, false);
        check.due("1 is not to be reached", x.request(2, 17, 1), 3);
        x.setLink(2, 3, false);
        x.setLink(0, 2, false);
        check.due("0 and 4 are as near, and the link from 0 does not matter", x.request(2, 17, 1), 0);
        x.setLink(2, 0, false);
        x.setLink(2, 4, false);
        check.due("none is to be reached", x.request(2, 17, 1), 5);
        check.counts(x, 2, 0, 3, 1, 0, 1, 3, 0);
    }

    private static void distanceFromWhereItIs() {
        DigestCaches x = Check.wronglyExpected(17, 1, 2);
        x.store(4, 17);
        x.publish(4);
        x.setLink(0, 4, false);
        x.setDistance(0, 2, 0);
        x.setDistance(2, 4, 50);
        check.due("request(0, 17, 4)", x.request(0, 17, 4), 4);
        check.route(x, 0, 2, 1, 4);
        check.counts(x, 0, 0, 1, 0, 2, 0, 3, 0);
        DigestCaches y = Check.wronglyExpected(17, 1);
        y.setLink(3, 0, false);
        y.store(3, 17);
        y.publish(3);
        check.due("1 expects it at 3, 0 does not", y.request(0, 17, 2), 3);
        check.route(y, 0, 1, 3);
    }

    private static void storingDrops() {
        DigestCaches x = new DigestCaches();
        x.setCapacity(0, 1);
        x.request(0, 17, 0);
        x.request(0, 18, 0);
        check.due("size(0)", x.size(0), 1);
        check.due("held(0, 0)", x.held(0, 0), 18);
        check.due("17 is counted out", x.mayHold(0, 17), 0);
        check.due("18 is counted in", x.mayHold(0, 18), 1);
    }

    private static void requestWrong() {
        check.says(25, "Makes a request. Recorded.", "Returns who served the object, 0 to 4, or 5 for the origin; "
            + "BAD_INDEX if there is no such cache; BAD_VALUE if object or limit is out of range.");
        DigestCaches x = new DigestCaches();
        x.request(1, 5, 0);
        long before = x.digest();
        check.refused("request(5, 1, 1)", x, x.request(5, 1, 1), -2, before);
        check.refused("request(-1, -1, -1)", x, x.request(-1, -1, -1), -2, before);
        check.refused("request(0, 1000, 1)", x, x.request(0, 1000, 1), -3, before);
        check.refused("request(0, -1, 1)", x, x.request(0, -1, 1), -3, before);
        check.refused("request(0, 1, -1)", x, x.request(0, 1, -1), -3, before);
        check.refused("request(0, 1, 5)", x, x.request(0, 1, 5), -3, before);
        check.route(x, 1);
        check.due("errors are not recorded", x.undo(), 0);
    }

    private static void way() {
        check.says(26, "Returns the way of the latest request.", "Returns the cache; NONE if it was not at so many, or "
            + "there was no request; BAD_VALUE if index is negative.");
        DigestCaches x = new DigestCaches();
        check.due("way(-1)", x.way(-1), -3);
        check.due("way(0) without a request", x.way(0), -1);
        x.request(4, 1, 4);
        check.route(x, 4);
        check.due("way(max)", x.way(Integer.MAX_VALUE), -1);
        check.due("way(min)", x.way(Integer.MIN_VALUE), -3);
        x.undo();
        check.due("undo leaves the way", x.way(0), 4);
        x.wouldServe(2, 1);
        check.due("wouldServe leaves it", x.way(0), 4);
    }

    private static void count() {
        check.says(27, "Returns a count of a cache.", "Returns the count; BAD_INDEX if there is no such cache; BAD_VALUE "
            + "if what is out of range.");
        DigestCaches x = new DigestCaches();
        x.request(0, 1, 4);
        check.due("count(0, 2)", x.count(0, 2), 1);
        check.due("count(1, 2)", x.count(1, 2), 0);
        check.due("count(5, 0)", x.count(5, 0), -2);
        check.due("count(-1, 7)", x.count(-1, 7), -2);
        check.due("count(0, 7)", x.count(0, 7), -3);
        check.due("count(0, -1)", x.count(0, -1), -3);
        x.undo();
        check.due("undo restores counts", x.count(0, 2), 0);
    }

    private static void wouldServe() {
        check.says(28, "Returns which cache would serve a request with the limit of 4 hops, without anything being "
            + "changed.", "Returns who would serve it, 0 to 5; BAD_INDEX if there is no such cache; BAD_VALUE if object is "
            + "out of range.");
        DigestCaches x = Check.wronglyExpected(17, 1, 2, 3);
        x.store(4, 17);
        x.store(4, 18);
        x.publish(4);
        long before = x.digest();
        check.due("4 hops to it", x.wouldServe(0, 17), 4);
        check.due("itself", x.wouldServe(4, 17), 4);
        check.due("the origin", x.wouldServe(0, 1), 5);
        check.due("digest()", x.digest(), before);
        check.due("there was no request", x.way(0), -1);
        check.due("wouldServe(5, 0)", x.wouldServe(5, 0), -2);
        check.due("wouldServe(-1, -1)", x.wouldServe(-1, -1), -2);
        check.due("wouldServe(0, -1)", x.wouldServe(0, -1), -3);
        check.due("wouldServe(0, 1000)", x.wouldServe(0, 1000), -3);
        check.due("3 hops are too few", x.request(0, 17, 3), 5);
        check.due("undo restores all", x.undo(), 3);
        check.due("digest()", x.digest(), before);
    }

    /** As a request with 4 hops at the same cache is served, wherever it is asked and however far it goes. */
    private static void wouldServeAtEachCache() {
        for (int holder = 0; holder < 5; holder++) {
            DigestCaches x = Check.wronglyExpected(17, (holder + 1) % 5, (holder + 2) % 5);
            x.store(holder, 17);
            x.publish(holder);
            x.store(holder, 18);
            for (int cache = 0; cache < 5; cache++) {
                check.due("wouldServe(" + cache + ", 17)", x.wouldServe(cache, 17), holder);
                check.due("request(" + cache + ", 17, 4)", x.request(cache, 17, 4), holder);
                x.undo();
                int due = cache == holder ? holder : 5;
                check.due("wouldServe(" + cache + ", 18), not published", x.wouldServe(cache, 18), due);
                check.due("request(" + cache + ", 18, 4)", x.request(cache, 18, 4), due);
                x.undo();
            }
        }
    }

    private static void undoRestoresAll() {
        DigestCaches x = new DigestCaches();
        x.store(0, 17);
        x.publish(0);
        x.pass(10);
        long before = x.digest();
        x.request(1, 17, 4);
        x.publish(1);
        x.setFilters(8, 4);
        check.due("undo()", x.undo(), 3);
        check.due("undo()", x.undo(), 2);
        check.due("undo()", x.undo(), 1);
        check.due("digest()", x.digest(), before);
        check.due("the copy works again", x.wouldServe(1, 17), 0);
        Check.typed(x, "1:17");
        check.due("undo()", x.undo(), 0);
        check.due("undo leaves the text", x.clearText(), 4);
        check.due("the time is 0 again", x.pass(1), 1);
        check.due("undo()", x.undo(), 0);
        check.due("an empty history", x.undo(), -4);
        check.due("again", x.undo(), -4);
    }

    private static void undoKeepsFour() {
        DigestCaches x = new DigestCaches();
        for (int many = 1; many <= 6; many++) {
            x.pass(1);
        }
        for (int left = 3; left >= 0; left--) {
            check.due("undo()", x.undo(), left);
        }
        check.due("undo()", x.undo(), -4);
        check.due("the time is 2", x.pass(1), 3);
        x.pass(1);
        check.due("undo()", x.undo(), 1);
        check.due("pass(10)", x.pass(10), 13);
        check.due("undo()", x.undo(), 1);
        check.due("undo()", x.undo(), 0);
        check.due("the time is 2 again", x.pass(1), 3);
    }

    /** The due hash is made from the other answers, in the order that the document tells. */
    private static void digest() {
        check.says(34, "Returns a hash of the state. It begins with h = 17; for each of the following numbers v, in this "
            + "order, h becomes 31 * h + v (long arithmetic, with overflow): M, K, the time; for each cache: its capacity, "
            + "size(), the objects that it holds, its counters, its version, the counts 0 to 6, and for each other cache "
            + "mask() and copy() of 0 and 1.", "Returns h.");
        DigestCaches x = new DigestCaches();
        x.setFilters(64, 3);
        x.pass(12);
        x.setCapacity(1, 3);
        for (int object = 0; object < 5; object++) {
            x.store(1, 200 * object + 8);
            x.store(3, 100 * object + 8);
        }
        x.setLink(1, 4, false);
        x.publish(1);
        x.pass(1);
        x.publish(3);
        x.request(0, 408, 3);
        x.request(2, 8, 3);
        x.request(4, 8, 3);
        long h = 17;
        h = 31 * h + 64;
        h = 31 * h + 3;
        h = 31 * h + 13;
        for (int cache = 0; cache < 5; cache++) {
            h = 31 * h + (cache == 1 ? 3 : 8);
            h = 31 * h + x.size(cache);
            for (int index = 0; index < x.size(cache); index++) {
                h = 31 * h + x.held(cache, index);
            }
            for (int counter = 0; counter < 64; counter++) {
                h = 31 * h + x.counter(cache, counter);
            }
            h = 31 * h + x.version(cache);
            for (int what = 0; what < 7; what++) {
                h = 31 * h + x.count(cache, what);
            }
            for (int of = 0; of < 5; of++) {
                if (of != cache) {
                    h = 31 * h + x.mask(cache, of);
                    h = 31 * h + x.copy(cache, of, 0);
                    h = 31 * h + x.copy(cache, of, 1);
                }
            }
        }
        check.due("digest()", x.digest(), h);
        check.due("digest() again", x.digest(), h);
    }
}
