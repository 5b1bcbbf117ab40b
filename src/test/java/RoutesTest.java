import java.util.Arrays;

/** The description's words on how a request goes, sentence by sentence. */
public final class RoutesTest {
    private static final Check check = new Check("RoutesTest");
    private static final int ASKED = 17;

    public static void main(String[] args) {
        tests();
        check.end();
    }

    static void tests() {
        limits();
        startsWhereItIsAsked();
        holderServes();
        holderServesAtTheLastHop();
        hopsEndAtTheLimit();
        neverTwiceAtACache();
        onlyOverLinksThatAreUp();
        onlyWhereItIsExpected();
        smallestDistance();
        lowestNumber();
        falseHits();
        falseMisses();
        noFalseMiss();
        storing();
        storingWhereThereIsNoRoom();
        counts();
        countsAddUp();
    }

    /** All others expect the object at these caches, which hold it. */
    private static DigestCaches rightlyExpected(int... caches) {
        DigestCaches x = new DigestCaches();
        for (int cache : caches) {
            x.store(cache, ASKED);
            x.publish(cache);
        }
        return x;
    }

    private static void limits() {
        check.says(0, "A request for an object at a cache c, with a limit of hops, 0 to 4, goes like this.");
        for (int limit = -1; limit <= 5; limit++) {
            DigestCaches x = Check.wronglyExpected(ASKED, 0, 1, 2, 3, 4);
            boolean there = limit >= 0 && limit <= 4;
            check.due("request with " + limit, x.request(2, ASKED, limit), there ? 5 : -3);
            check.due("hops with " + limit, x.count(2, 5), there ? limit : 0);
        }
    }

    private static void startsWhereItIsAsked() {
        check.says(0, "It is at c first, with 0 hops.");
        for (int cache = 0; cache < 5; cache++) {
            DigestCaches x = new DigestCaches();
            check.due("request(" + cache + ", 999, 4)", x.request(cache, 999, 4), 5);
            check.route(x, cache);
            check.due("no hops", x.count(cache, 5), 0);
            check.due("now it is held", x.request(cache, 999, 4), cache);
            check.route(x, cache);
            check.due("no hops", x.count(cache, 5), 0);
        }
    }

    /** Whatever is expected elsewhere, c serves what it holds. */
    private static void holderServes() {
        check.says(0, "Again and again: if the cache at which it is holds the object, this cache uses it and serves it.");
        for (int limit = 0; limit <= 4; limit++) {
            DigestCaches x = rightlyExpected(0, 1, 2, 3, 4);
            x.setDistance(3, 4, 0);
            x.store(3, 1);
            check.due("request(3, 17, " + limit + ")", x.request(3, ASKED, limit), 3);
            check.due("it is used", x.held(3, 0), ASKED);
            check.route(x, 3);
            x.store(1, 2);
            x.drop(0, ASKED);
            check.due("request(0, 17, " + limit + ")", x.request(0, ASKED, limit), limit == 0 ? 5 : 1);
            check.due("it is used there, if the request came there", x.held(1, 0), limit == 0 ? 2 : ASKED);
        }
    }

    /** The limit ends the search, not the service. */
    private static void holderServesAtTheLastHop() {
        int[] wrong = {1, 2, 3};
        for (int hops = 1; hops <= 4; hops++) {
            DigestCaches x = Check.wronglyExpected(ASKED, Arrays.copyOf(wrong, hops - 1));
            x.store(4, ASKED);
            x.publish(4);
            check.due("too few hops", x.request(0, ASKED, hops - 1), 5);
            x.undo();
            check.due("just enough", x.request(0, ASKED, hops), 4);
            check.due("hops", x.count(0, 5), hops);
            check.due("the last one of the way", x.way(hops), 4);
            check.due("false hits", x.count(0, 3), hops - 1);
        }
    }

    private static void hopsEndAtTheLimit() {
        int[] due = {4, 3, 2, 1, 0};
        for (int limit = 0; limit <= 4; limit++) {
            DigestCaches x = Check.wronglyExpected(ASKED, 0, 1, 2, 3, 4);
            check.due("request(4, 17, " + limit + ")", x.request(4, ASKED, limit), 5);
            check.route(x, Arrays.copyOf(due, limit + 1));
            check.counts(x, 4, 0, 0, 1, limit, 0, limit);
        }
    }

    /** Two caches that expect it at each other, and c expected by both. */
    private static void neverTwiceAtACache() {
        check.says(0, "Otherwise, if the number of hops is less than the limit, the next cache is sought: of those at which "
            + "the request has not been, to which the link from the cache at which it is is up, and at which this cache "
            + "expects the object, the one with the smallest distance from this cache, of several the lowest number.");
        DigestCaches x = Check.wronglyExpected(ASKED, 1, 2, 3);
        x.setDistance(1, 2, 0);
        x.setDistance(3, 2, 0);
        check.due("request(2, 17, 4)", x.request(2, ASKED, 4), 5);
        check.route(x, 2, 1, 3);
        DigestCaches y = Check.wronglyExpected(ASKED, 0, 4);
        check.due("request(0, 17, 4)", y.request(0, ASKED, 4), 5);
        check.route(y, 0, 4);
    }

    private static void onlyOverLinksThatAreUp() {
        for (int down = 1; down < 5; down++) {
            DigestCaches x = rightlyExpected(down);
            x.setLink(0, down, false);
            check.due("the link is down", x.request(0, ASKED, 4), 5);
            check.counts(x, 0, 0, 0, 1, 0, 1, 0);
            DigestCaches y = rightlyExpected(down);
            y.setLink(down, 0, false);
            check.due("the link back does not matter", y.request(0, ASKED, 4), down);
        }
        DigestCaches x = Check.wronglyExpected(ASKED, 1);
        x.store(2, ASKED);
        x.publish(2);
        x.setLink(0, 2, false);
        check.due("the link from where the request is counts", x.request(0, ASKED, 4), 2);
        check.route(x, 0, 1, 2);
        x.undo();
        x.setLink(1, 2, false);
        check.due("both are down", x.request(0, ASKED, 4), 5);
        check.route(x, 0, 1);
    }

    private static void onlyWhereItIsExpected() {
        DigestCaches unpublished = new DigestCaches();
        unpublished.store(1, ASKED);
        check.due("not published", unpublished.request(0, ASKED, 4), 5);
        DigestCaches old = rightlyExpected(1);
        old.pass(100);
        check.due("just fresh", old.wouldServe(0, ASKED), 1);
        old.pass(1);
        check.due("not fresh", old.request(0, ASKED, 4), 5);
        check.route(old, 0);
        DigestCaches unheard = new DigestCaches();
        unheard.setLink(1, 0, false);
        unheard.store(1, ASKED);
        unheard.publish(1);
        check.due("c has not heard of it", unheard.request(0, ASKED, 4), 5);
        check.due("another one has", unheard.request(2, ASKED, 4), 1);
        DigestCaches others = Check.wronglyExpected(ASKED, 2);
        others.setLink(1, 0, false);
        others.store(1, ASKED);
        others.publish(1);
        check.due("what the cache expects at which the request is", others.request(0, ASKED, 4), 1);
        check.route(others, 0, 2, 1);
    }

    private static void smallestDistance() {
        for (int nearest = 1; nearest < 5; nearest++) {
            DigestCaches x = rightlyExpected(1, 2, 3, 4);
            for (int to = 1; to < 5; to++) {
                x.setDistance(0, to, to == nearest ? 98 : 99);
                x.setDistance(to, 0, to == nearest ? 99 : 0);
            }
            check.due("98 is nearer than 99", x.request(0, ASKED, 1), nearest);
            x.drop(0, ASKED);
            x.setDistance(0, 5 - nearest, 0);
            check.due("0 is the nearest", x.request(0, ASKED, 1), 5 - nearest);
        }
        DigestCaches far = rightlyExpected(4);
        far.setDistance(1, 4, 99);
        check.due("99 is near enough", far.request(1, ASKED, 1), 4);
        DigestCaches x = Check.wronglyExpected(ASKED, 3);
        x.store(1, ASKED);
        x.publish(1);
        x.store(4, ASKED);
        x.publish(4);
        x.setDistance(0, 3, 0);
        check.due("from the cache at which the request is", x.request(0, ASKED, 2), 4);
        check.route(x, 0, 3, 4);
    }

    private static void lowestNumber() {
        for (int distance : new int[] {0, 1, 99}) {
            for (int lowest = 0; lowest < 4; lowest++) {
                DigestCaches x = new DigestCaches();
                for (int cache = lowest; cache < 4; cache++) {
                    x.store(cache, ASKED);
                    x.publish(cache);
                }
                for (int to = 0; to < 4; to++) {
                    x.setDistance(4, to, distance);
                }
                check.due("of several at " + distance, x.request(4, ASKED, 1), lowest);
            }
        }
    }

    private static void falseHits() {
        check.says(0, "If there is one, the request goes there, with one hop more; if it does not hold the object, that is "
            + "a false hit.");
        DigestCaches x = Check.wronglyExpected(ASKED, 1, 2);
        x.store(3, ASKED);
        x.publish(3);
        check.due("request(0, 17, 4)", x.request(0, ASKED, 4), 3);
        check.counts(x, 0, 0, 1, 0, 2, 0, 3, 0);
        DigestCaches y = rightlyExpected(1);
        check.due("request(0, 17, 1)", y.request(0, ASKED, 1), 1);
        check.due("a hit is no false hit", y.count(0, 3), 0);
        check.due("one hop", y.count(0, 5), 1);
        DigestCaches z = rightlyExpected(1);
        check.due("351 has the bits of 17", z.request(0, 351, 1), 5);
        check.counts(z, 0, 0, 0, 1, 1, 0, 1, 0);
    }

    private static void falseMisses() {
        check.says(0, "Otherwise the origin serves the object; it is a false miss if some cache at which the request has "
            + "not been holds it.");
        DigestCaches limited = rightlyExpected(1);
        check.due("no hops", limited.request(0, ASKED, 0), 5);
        check.counts(limited, 0, 0, 0, 1, 0, 1, 0);
        DigestCaches several = new DigestCaches();
        for (int cache = 1; cache < 5; cache++) {
            several.store(cache, ASKED);
        }
        check.due("four hold it, which are not expected to", several.request(0, ASKED, 4), 5);
        check.counts(several, 0, 0, 0, 1, 0, 1, 0);
        for (int holder = 1; holder < 5; holder++) {
            DigestCaches x = new DigestCaches();
            x.store(holder, ASKED);
            check.due("one holds it", x.request(0, ASKED, 4), 5);
            check.due("a false miss", x.count(0, 4), 1);
            check.due("none of the holder's", x.count(holder, 4), 0);
        }
        DigestCaches later = Check.wronglyExpected(ASKED, 1, 2, 3);
        later.store(4, ASKED);
        later.publish(4);
        check.due("it would have been the fourth", later.request(0, ASKED, 3), 5);
        check.counts(later, 0, 0, 0, 1, 3, 1, 3);
    }

    private static void noFalseMiss() {
        DigestCaches nobody = Check.wronglyExpected(ASKED, 1, 2, 3, 4);
        check.due("nobody holds it", nobody.request(0, ASKED, 4), 5);
        check.counts(nobody, 0, 0, 0, 1, 4, 0, 4);
        DigestCaches served = rightlyExpected(1, 2);
        check.due("a cache serves it", served.request(0, ASKED, 4), 1);
        check.due("though 2 holds it", served.count(0, 4), 0);
        DigestCaches other = new DigestCaches();
        other.store(1, 351);
        check.due("another object with the same bits is held", other.request(0, ASKED, 4), 5);
        check.due("no false miss", other.count(0, 4), 0);
    }

    private static void storing() {
        check.says(0, "Then, if c was not the one that served it, c stores the object, if storing is on (it is at first).");
        DigestCaches x = Check.wronglyExpected(ASKED, 1);
        x.store(2, ASKED);
        x.publish(2);
        check.due("another cache serves", x.request(0, ASKED, 4), 2);
        check.due("c stores", x.held(0, 0), ASKED);
        check.due("a cache on the way does not", x.size(1), 0);
        check.due("the origin serves", x.request(3, 500, 4), 5);
        check.due("c stores", x.held(3, 0), 500);
        x.setRules(100, false, 2);
        check.due("another cache serves", x.request(4, ASKED, 4), 2);
        check.due("storing is off", x.size(4), 0);
        check.due("the origin serves", x.request(4, 600, 4), 5);
        check.due("storing is off", x.size(4), 0);
        x.store(0, 1);
        check.due("c serves", x.request(0, ASKED, 4), 0);
        check.due("to use is not to store", x.held(0, 0), ASKED);
        x.setRules(100, true, 2);
        check.due("the origin serves", x.request(4, 600, 4), 5);
        check.due("storing is on again", x.size(4), 1);
        check.due("c has it once", x.request(0, ASKED, 4), 0);
        check.due("size(0)", x.size(0), 2);
    }

    private static void storingWhereThereIsNoRoom() {
        DigestCaches x = rightlyExpected(1);
        x.setCapacity(0, 2);
        x.store(0, 10);
        x.store(0, 11);
        check.due("another cache serves", x.request(0, ASKED, 1), 1);
        check.due("held(0, 0)", x.held(0, 0), ASKED);
        check.due("held(0, 1)", x.held(0, 1), 11);
        check.due("10 is dropped", x.holds(0, 10), 0);
        check.due("its bits go", x.mayHold(0, 10), 0);
        check.due("the origin serves", x.request(0, 12, 0), 5);
        check.due("held(0, 0)", x.held(0, 0), 12);
        check.due("held(0, 1)", x.held(0, 1), ASKED);
    }

    /** Each count by itself, at the cache where the request was made and at no other. */
    private static void counts() {
        check.says(0, "Each cache counts for its requests: 0 those that it served itself, 1 those that another cache "
            + "served, 2 those that the origin served, 3 false hits, 4 false misses, 5 hops; and 6 the units that it has "
            + "sent.");
        DigestCaches x = Check.wronglyExpected(ASKED, 1, 2);
        x.setRules(100, false, 2);
        x.store(4, ASKED);
        x.publish(4);
        check.counts(x, 0, 0, 0, 0, 0, 0, 0, 0);
        check.due("by another", x.request(0, ASKED, 3), 4);
        check.counts(x, 0, 0, 1, 0, 2, 0, 3, 0);
        check.due("by the origin", x.request(0, ASKED, 2), 5);
        check.counts(x, 0, 0, 1, 1, 4, 1, 5, 0);
        check.due("by itself", x.request(4, ASKED, 2), 4);
        check.counts(x, 0, 0, 1, 1, 4, 1, 5, 0);
        check.counts(x, 4, 1, 0, 0, 0, 0, 0, 12);
        check.counts(x, 1, 0, 0, 0, 0, 0, 0, 12);
        check.counts(x, 3, 0, 0, 0, 0, 0, 0, 0);
        check.due("wouldServe is no request", x.wouldServe(0, ASKED), 4);
        check.counts(x, 0, 0, 1, 1, 4, 1, 5, 0);
        check.due("publish(4)", x.publish(4), 4);
        check.due("units are added", x.count(4, 6), 16);
        for (int to = 0; to < 4; to++) {
            x.setLink(4, to, false);
        }
        check.due("publish(4) to none", x.publish(4), 0);
        check.due("units", x.count(4, 6), 16);
    }

    private static void countsAddUp() {
        DigestCaches x = Check.wronglyExpected(ASKED, 1, 2);
        x.setRules(100, false, 2);
        x.store(4, ASKED);
        x.publish(4);
        x.store(0, 1);
        for (int times = 1; times <= 3; times++) {
            x.request(0, 1, 4);
            x.request(0, ASKED, 4);
            x.request(0, ASKED, 2);
            check.counts(x, 0, times, times, times, 4 * times, times, 5 * times, 0);
        }
    }
}
