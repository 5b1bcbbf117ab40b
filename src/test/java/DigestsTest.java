/** Promises 20 to 24: what is published, and what the others have of it. */
public final class DigestsTest {
    private static final Check check = new Check("DigestsTest");

    public static void main(String[] args) {
        publish();
        publishAsChangesOrWhole();
        publishAfterALinkWasDown();
        publishOfNothing();
        wholeCostIsRoundedDown();
        undoOfPublish();
        version();
        copy();
        copyDifference();
        copyWrong();
        freshness();
        mask();
        maskWithAllBits();
        expects();
        expectsWrong();
        check.end();
    }

    private static void publish() {
        DigestCaches x = new DigestCaches();
        x.pass(7);
        x.store(2, 17);
        x.setLink(2, 4, false);
        check.due("publish(2) to three", x.publish(2), 9);
        for (int at = 0; at < 5; at++) {
            if (at != 2) {
                check.due("copy's version", x.copy(at, 2, 0), at == 4 ? 0 : 1);
                check.due("copy's time", x.copy(at, 2, 1), at == 4 ? 0 : 7);
                check.due("mask", x.mask(at, 2), at == 4 ? 0 : (1L << 22) + (1L << 28));
            }
        }
        check.due("links the other way are not asked", x.setLink(4, 2, false), 1);
        check.due("the sender has no new copies", x.copy(2, 0, 0), 0);
        check.due("count(2, 6)", x.count(2, 6), 9);
        check.due("count(0, 6)", x.count(0, 6), 0);
        check.due("publish(5)", x.publish(5), -2);
        check.due("publish(-1)", x.publish(-1), -2);
        check.due("version(2)", x.version(2), 1);
    }

    private static void publishAsChangesOrWhole() {
        DigestCaches x = new DigestCaches();
        int[] objects = {1, 3, 4, 5};
        for (int object : objects) {
            x.store(0, object);
        }
        check.due("8 changes", x.publish(0), 36);
        check.due("no change", x.publish(0), 4);
        for (int object : objects) {
            x.drop(0, object);
        }
        check.due("8 changes back", x.publish(0), 36);
        for (int object = 1; object <= 6; object++) {
            x.store(0, object);
        }
        check.due("11 changes are sent as a whole", x.publish(0), 40);
        check.due("mask(4, 0)", Long.bitCount(x.mask(4, 0)), 11);
        x.drop(0, 1);
        x.store(0, 0);
        check.due("4 changes, not 11 bits", x.publish(0), 20);
        check.due("count(0, 6)", x.count(0, 6), 36 + 4 + 36 + 40 + 20);
    }

    private static void publishAfterALinkWasDown() {
        DigestCaches x = new DigestCaches();
        x.setLink(1, 3, false);
        check.due("to three", x.publish(1), 3);
        x.setLink(1, 3, true);
        check.due("to three changes, to one a whole", x.publish(1), 13);
        check.due("all as changes", x.publish(1), 4);
        for (int to = 0; to < 5; to++) {
            x.setLink(1, to, false);
        }
        x.store(1, 17);
        check.due("to none", x.publish(1), 0);
        check.due("its version increases", x.version(1), 4);
        check.due("copies stay", x.copy(0, 1, 0), 3);
        x.setLink(1, 0, true);
        check.due("a whole, though nothing has changed since", x.publish(1), 10);
        check.due("mask(0, 1)", x.mask(0, 1), (1L << 22) + (1L << 28));
        check.due("mask(2, 1)", x.mask(2, 1), 0);
    }

    private static void publishOfNothing() {
        DigestCaches x = new DigestCaches();
        check.due("publish(3)", x.publish(3), 4);
        check.due("the version is 1", x.copy(0, 3, 0), 1);
        check.due("it is fresh", x.copy(0, 3, 3), 1);
        check.due("it expects nothing", x.expects(0, 3, 17), 0);
    }

    private static void wholeCostIsRoundedDown() {
        DigestCaches x = new DigestCaches();
        x.setFilters(11, 2);
        x.setLink(0, 1, false);
        x.publish(0);
        x.setLink(0, 1, true);
        check.due("2 + 11 / 4, and three changes of 1", x.publish(0), 7);
        x.setFilters(64, 1);
        x.setLink(0, 1, false);
        x.publish(0);
        x.setLink(0, 1, true);
        check.due("2 + 64 / 4, and three changes of 1", x.publish(0), 21);
    }

    private static void undoOfPublish() {
        DigestCaches x = new DigestCaches();
        x.store(0, 17);
        long before = x.digest();
        check.due("publish(0)", x.publish(0), 12);
        check.due("undo()", x.undo(), 1);
        check.due("digest()", x.digest(), before);
        check.due("the published mask is restored: 2 changes", x.publish(0), 12);
        check.due("no change", x.publish(0), 4);
    }

    private static void version() {
        DigestCaches x = new DigestCaches();
        x.publish(4);
        x.publish(4);
        x.publish(0);
        check.due("version(4)", x.version(4), 2);
        check.due("version(0)", x.version(0), 1);
        check.due("version(1)", x.version(1), 0);
        check.due("version(5)", x.version(5), -2);
        check.due("version(-1)", x.version(-1), -2);
    }

    private static void copy() {
        DigestCaches x = new DigestCaches();
        x.publish(0);
        x.pass(30);
        x.store(0, 17);
        x.store(0, 2);
        x.publish(0);
        x.pass(3);
        check.due("version", x.copy(4, 0, 0), 2);
        check.due("time", x.copy(4, 0, 1), 30);
        check.due("bits", x.copy(4, 0, 2), 3);
        check.due("fresh", x.copy(4, 0, 3), 1);
        check.due("different", x.copy(4, 0, 4), 0);
        check.due("the other way", x.copy(0, 4, 0), 0);
    }

    private static void copyDifference() {
        DigestCaches x = new DigestCaches();
        x.store(0, 17);
        check.due("before it is published", x.copy(1, 0, 4), 2);
        x.publish(0);
        x.store(0, 18);
        check.due("two bits more", x.copy(1, 0, 4), 2);
        x.drop(0, 17);
        check.due("and two less", x.copy(1, 0, 4), 4);
        check.due("its bits stay", x.copy(1, 0, 2), 2);
        x.store(1, 1);
        check.due("its own filter does not matter", x.copy(1, 0, 4), 4);
    }

    private static void copyWrong() {
        DigestCaches x = new DigestCaches();
        check.due("copy(5, 0, 0)", x.copy(5, 0, 0), -2);
        check.due("copy(0, 5, 9)", x.copy(0, 5, 9), -2);
        check.due("copy(-1, -1, 0)", x.copy(-1, -1, 0), -2);
        check.due("copy(0, -1, 0)", x.copy(0, -1, 0), -2);
        check.due("copy(2, 2, 0)", x.copy(2, 2, 0), -3);
        check.due("copy(2, 3, -1)", x.copy(2, 3, -1), -3);
        check.due("copy(2, 3, 5)", x.copy(2, 3, 5), -3);
    }

    private static void freshness() {
        DigestCaches x = new DigestCaches();
        check.due("a version 0 is not fresh", x.copy(0, 1, 3), 0);
        x.publish(1);
        x.pass(100);
        check.due("at the age", x.copy(0, 1, 3), 1);
        x.pass(1);
        check.due("beyond", x.copy(0, 1, 3), 0);
        x.setRules(101, true, 2);
        check.due("with another age", x.copy(0, 1, 3), 1);
        x.setRules(0, true, 2);
        check.due("with the age 0", x.copy(0, 1, 3), 0);
        x.publish(1);
        check.due("at the same time", x.copy(0, 1, 3), 1);
    }

    private static void mask() {
        DigestCaches x = new DigestCaches();
        x.store(3, 2);
        x.publish(3);
        check.due("mask(0, 3)", x.mask(0, 3), 32);
        check.due("mask(3, 0)", x.mask(3, 0), 0);
        x.store(3, 17);
        check.due("it is late", x.mask(0, 3), 32);
        check.due("mask(5, 0)", x.mask(5, 0), -2);
        check.due("mask(0, 5)", x.mask(0, 5), -2);
        check.due("mask(-1, -1)", x.mask(-1, -1), -2);
        check.due("mask(1, 1)", x.mask(1, 1), -3);
    }

    private static void maskWithAllBits() {
        DigestCaches x = new DigestCaches();
        x.setFilters(64, 1);
        x.store(0, 8);
        x.publish(0);
        check.due("the bit 63", x.mask(1, 0), Long.MIN_VALUE);
        check.due("it is in the mask", x.expects(1, 0, 121), 1);
        x.store(0, 0);
        x.publish(0);
        check.due("the bits 63 and 7", x.mask(1, 0), Long.MIN_VALUE + 128);
    }

    private static void expects() {
        DigestCaches x = new DigestCaches();
        x.store(0, 17);
        check.due("before it is published", x.expects(1, 0, 17), 0);
        x.publish(0);
        check.due("expects(1, 0, 17)", x.expects(1, 0, 17), 1);
        check.due("expects(1, 0, 351), which is not held", x.expects(1, 0, 351), 1);
        check.due("expects(1, 0, 44), one of two bits", x.expects(1, 0, 44), 0);
        check.due("expects(0, 1, 17)", x.expects(0, 1, 17), 0);
        x.drop(0, 17);
        x.store(0, 18);
        check.due("late", x.expects(1, 0, 17), 1);
        check.due("too late", x.expects(1, 0, 18), 0);
        x.setLink(1, 0, false);
        check.due("links do not matter", x.expects(1, 0, 17), 1);
        x.pass(101);
        check.due("not fresh", x.expects(1, 0, 17), 0);
    }

    private static void expectsWrong() {
        DigestCaches x = new DigestCaches();
        check.due("expects(5, 0, 0)", x.expects(5, 0, 0), -2);
        check.due("expects(0, 5, -1)", x.expects(0, 5, -1), -2);
        check.due("expects(-1, -1, 0)", x.expects(-1, -1, 0), -2);
        check.due("expects(1, 1, 0)", x.expects(1, 1, 0), -3);
        check.due("expects(1, 0, -1)", x.expects(1, 0, -1), -3);
        check.due("expects(1, 0, 1000)", x.expects(1, 0, 1000), -3);
        check.due("questions are not recorded", x.undo(), -4);
    }
}
