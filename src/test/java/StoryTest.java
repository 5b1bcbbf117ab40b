/** The document's first words, "What it is": a run through all of it, and objects used as long as they may be. */
public final class StoryTest {
    private static final Check check = new Check("StoryTest");
    private static final int WHAT_IT_IS = Document.WHAT_IT_IS;

    /** How many calls an object is used for. */
    private static final int CALLS = 512;

    public static void main(String[] args) {
        tests();
        check.end();
    }

    static void tests() {
        usedLast();
        published();
        redirected();
        counted();
        lastCalls();
        lastUndo();
    }

    private static void usedLast() {
        check.says(WHAT_IT_IS, "Caches that tell one another by digests what they hold. Each cache keeps the objects that "
            + "were used last, and a filter of counters over them;");
        DigestCaches x = new DigestCaches();
        x.setCapacity(3, 2);
        x.store(3, 10);
        x.store(3, 11);
        x.request(3, 10, 0);
        check.due("11 was used before 10", x.store(3, 12), 11);
        check.due("10 is kept", x.holds(3, 10), 1);
        check.due("12 is kept", x.holds(3, 12), 1);
        int sum = 0;
        for (int counter = 0; counter < 32; counter++) {
            sum += x.counter(3, counter);
        }
        check.due("two objects, two functions", sum, 4);
    }

    private static void published() {
        check.says(WHAT_IT_IS, "its digest, the bits of the filter, is published to the others, as changes or as a whole, "
            + "over links that can be down.");
        DigestCaches x = new DigestCaches();
        x.store(3, 17);
        x.setLink(3, 0, false);
        check.due("changes to three", x.publish(3), 3 * 3);
        long bits = 0;
        for (int counter = 0; counter < 32; counter++) {
            bits += x.counter(3, counter) > 0 ? 1L << counter : 0;
        }
        check.due("the bits of the filter", x.mask(2, 3), bits);
        check.due("the link was down", x.mask(0, 3), 0);
        x.setLink(3, 0, true);
        check.due("a whole digest to the one that missed", x.publish(3), 3 + 10);
        check.due("now it has it", x.mask(0, 3), bits);
    }

    /** Cache 1 holds no more what its digest says, cache 2 holds what its digest does not say yet. */
    private static DigestCaches lateDigests() {
        DigestCaches x = Check.wronglyExpected(17, 1);
        x.publish(2);
        x.store(2, 17);
        return x;
    }

    private static void redirected() {
        check.says(WHAT_IT_IS, "Requests are redirected by digests that can be late or wrong, with a limit of hops;");
        DigestCaches late = lateDigests();
        check.due("1 is late, 2 is late", late.request(0, 17, 4), 5);
        check.route(late, 0, 1);
        DigestCaches wrong = new DigestCaches();
        wrong.store(4, 17);
        wrong.publish(4);
        check.due("351 has the bits of 17", wrong.request(0, 351, 4), 5);
        check.route(wrong, 0, 4);
        DigestCaches told = lateDigests();
        told.publish(2);
        check.due("one hop is too few", told.request(0, 17, 1), 5);
        told.undo();
        check.due("two hops", told.request(0, 17, 2), 2);
        check.route(told, 0, 1, 2);
    }

    private static void counted() {
        check.says(WHAT_IT_IS, "hits, false hits, false misses and what is sent are counted.");
        DigestCaches x = lateDigests();
        x.request(0, 17, 4);
        check.counts(x, 0, 0, 0, 1, 1, 1, 1, 0);
        x.request(0, 17, 4);
        check.counts(x, 0, 1, 0, 1, 1, 1, 1, 0);
        check.due("publish(0)", x.publish(0), 4 * 3);
        check.counts(x, 0, 1, 0, 1, 1, 1, 1, 12);
        x.request(3, 17, 4);
        check.counts(x, 3, 0, 1, 0, 1, 0, 2, 0);
    }

    /** The 512th call is still answered as due, whichever call it is and whatever has grown by those before. */
    private static void lastCalls() {
        check.says(WHAT_IT_IS, "An object is used for at most 512 calls after it has been made; what later calls answer is "
            + "free.");
        DigestCaches publishing = new DigestCaches();
        for (int call = 1; call < CALLS; call++) {
            check.due("publish(2), call " + call, publishing.publish(2), 4);
        }
        check.due("the version", publishing.version(2), CALLS - 1);
        DigestCaches passing = new DigestCaches();
        for (int call = 1; call <= CALLS; call++) {
            check.due("pass(1000), call " + call, passing.pass(1000), 1000 * call);
        }
        DigestCaches storing = new DigestCaches();
        for (int call = 1; call <= CALLS; call++) {
            check.due("store(1, ..), call " + call, storing.store(1, call), call <= 8 ? -1 : call - 8);
        }
        DigestCaches requesting = new DigestCaches();
        for (int call = 1; call < CALLS; call++) {
            requesting.request(4, call % 9, 4);
        }
        check.due("the requests that the origin served", requesting.count(4, 2), CALLS - 1);
    }

    private static void lastUndo() {
        DigestCaches x = new DigestCaches();
        for (int call = 1; call <= CALLS - 6; call++) {
            x.pass(1);
        }
        for (int left = 3; left >= 0; left--) {
            check.due("undo()", x.undo(), left);
        }
        check.due("undo() of none", x.undo(), -4);
        check.due("the 512th call", x.pass(1), CALLS - 6 - 4 + 1);
    }
}
