/** Promises 20 to 24: what is published, and what the others have of it. */
public final class DigestsTest {
    private static final Check check = new Check("DigestsTest");

    public static void main(String[] args) {
        tests();
        check.end();
    }

    static void tests() {
        publish();
        publishing();
        publishAsChangesOrWhole();
        costOfEachNumberOfChanges();
        wholeToThoseThatAreBehind();
        whatACopyBecomes();
        linksAreDirected();
        publishAfterALinkWasDown();
        publishOfNothing();
        wholeCostIsRoundedDown();
        undoOfPublish();
        version();
        copy();
        copyDifference();
        copyWrong();
        freshness();
        freshAtEachAge();
        mask();
        maskWithAllBits();
        expects();
        expectsWhatIsFreshAndInTheMask();
        expectsWrong();
    }

    private static void publish() {
        check.says(20, "Lets a cache publish. Recorded.",
            "Returns how many units it sends; BAD_INDEX if there is no such cache.");
        DigestCaches x = new DigestCaches();
        x.pass(7);
        x.store(2, 17);
        x.setLink(2, 4, false);
        check.due("publish(2) to three", x.publish(2), 9);
        for (int at = 0; at < 5; at++) {
            if (at != 2) {
                check.due("copy's version", x.copy(at, 2, 0), at == 4 ? 0 : 1);
                check.due("copy's time", x.copy(at, 2, 1), at == 4 ? 0 : 7);
                check.due("mask", x.mask(at, 2), at == 4 ? 0 : (1L << 22) + (1L << 28));
            }
        }
        check.due("links the other way are not asked", x.setLink(4, 2, false), 1);
        check.due("the sender has no new copies", x.copy(2, 0, 0), 0);
        check.due("count(2, 6)", x.count(2, 6), 9);
        check.due("count(0, 6)", x.count(0, 6), 0);
        check.due("publish(5)", x.publish(5), -2);
        check.due("publish(-1)", x.publish(-1), -2);
        check.due("version(2)", x.version(2), 1);
    }

    private static void publishing() {
        check.says(0, "A cache publishes like this: its version increases by 1, its published mask becomes the bits of "
            + "its filter; let D be the number of bits in which this is different from the one before.");
        DigestCaches x = new DigestCaches();
        x.setFilters(64, 1);
        int[] objects = Values.objectsApart(64, 6);
        x.store(3, objects[0]);
        x.store(3, objects[1]);
        check.due("2 bits more", x.publish(3), 4 * 3);
        check.due("version(3)", x.version(3), 1);
        check.due("none", x.publish(3), 4);
        check.due("version(3), though nothing has changed", x.version(3), 2);
        x.drop(3, objects[0]);
        check.due("1 less", x.publish(3), 4 * 2);
        x.drop(3, objects[1]);
        x.store(3, objects[2]);
        check.due("1 less and 1 more", x.publish(3), 4 * 3);
        x.store(3, objects[3]);
        x.drop(3, objects[3]);
        check.due("1 more and less between", x.publish(3), 4);
        x.setCapacity(3, 1);
        x.store(3, objects[4]);
        check.due("one in the place of another", x.publish(3), 4 * 3);
        x.drop(3, objects[4]);
        check.due("the last one less", x.publish(3), 4 * 2);
        check.due("version(3)", x.version(3), 7);
        check.due("other versions stay", x.version(2), 0);
    }

    /** Both sides of the edge at which a whole digest costs no more than the changes, for every M. */
    private static void costOfEachNumberOfChanges() {
        check.says(0, "To each other cache in order to which its link is up, it sends the digest: as changes, if the "
            + "version of the copy there is the version before this one, and 1 + D is less than 2 + M / 4 (integer "
            + "division), and otherwise as a whole. Changes cost 1 + D units, a whole digest 2 + M / 4.");
        for (int m = 8; m <= 64; m++) {
            int whole = (8 + m - m % 4) / 4;
            for (int d = 0; d <= Math.min(m, whole + 2); d++) {
                int[] objects = Values.objectsApart(m, d);
                DigestCaches x = new DigestCaches();
                x.setFilters(m, 1);
                x.setCapacity(0, 16);
                for (int i = 0; i < d / 2; i++) {
                    x.store(0, objects[i]);
                }
                check.due("at first " + d / 2 + " of " + m, x.publish(0), 4 * Math.min(1 + d / 2, whole));
                for (int i = 0; i < d; i++) {
                    check.holds("half of them go, half come", (i < d / 2 ? x.drop(0, objects[i])
                        : x.store(0, objects[i])) >= -1);
                }
                check.due("then " + d + " of " + m, x.publish(0), 4 * Math.min(1 + d, whole));
                check.due("copy's bits", x.copy(4, 0, 2), d - d / 2);
            }
        }
    }

    /** A copy may be one version behind or more, and each receiver is judged by its own copy. */
    private static void wholeToThoseThatAreBehind() {
        for (int missed = 0; missed <= 3; missed++) {
            DigestCaches x = new DigestCaches();
            x.publish(2);
            x.setLink(2, 0, false);
            for (int i = 0; i < missed; i++) {
                check.due("to three", x.publish(2), 3);
            }
            x.setLink(2, 0, true);
            check.due("missed " + missed, x.publish(2), missed == 0 ? 4 : 3 + 10);
            check.due("then it is not behind", x.publish(2), 4);
            check.due("its version", x.copy(0, 2, 0), missed + 3);
        }
        DigestCaches x = new DigestCaches();
        x.setLink(2, 0, false);
        x.publish(2);
        x.undo();
        x.undo();
        check.due("what was undone was not missed", x.publish(2), 4);
        x.setLink(2, 4, false);
        x.publish(2);
        x.setFilters(32, 2);
        x.setLink(2, 4, true);
        check.due("after setFilters none is behind", x.publish(2), 4);
    }

    private static void whatACopyBecomes() {
        check.says(0, "The copy there becomes the published mask, with the version and the present time.");
        DigestCaches x = new DigestCaches();
        long[] masks = {0, 1L << 22 | 1L << 28, 1L << 22 | 1L << 28 | 1L << 5};
        int[] objects = {17, 2, 2};
        int[] units = {4, 4 * 3, 4 * 2};
        for (int version = 1; version <= 3; version++) {
            check.due("publish(1)", x.publish(1), units[version - 1]);
            for (int at = 0; at < 5; at++) {
                check.due("mask of version " + version, x.mask(at, 1), at == 1 ? -3 : masks[version - 1]);
                check.due("version", x.copy(at, 1, 0), at == 1 ? -3 : version);
                check.due("time", x.copy(at, 1, 1), at == 1 ? -3 : 10 * version - 10);
            }
            x.store(1, objects[version - 1]);
            x.pass(10);
        }
    }

    private static void linksAreDirected() {
        check.says(0, "Links are directed, and up at first.");
        Check.pairs((from, to) -> {
            DigestCaches x = new DigestCaches();
            check.due("it was up", x.setLink(from, to, false), 1);
            check.due("to three", x.publish(from), 3);
            check.due("to four", x.publish(to), 4);
            for (int at = 0; at < 5; at++) {
                if (at != from) {
                    check.due("copy at " + at, x.copy(at, from, 0), at == to ? 0 : 1);
                }
            }
            check.due("the other way", x.copy(from, to, 0), 1);
            check.due("it was down", x.setLink(from, to, true), 0);
            check.due("the other way it was up", x.setLink(to, from, true), 1);
        });
    }

    private static void publishAsChangesOrWhole() {
        DigestCaches x = new DigestCaches();
        int[] objects = {1, 3, 4, 5};
        for (int object : objects) {
            x.store(0, object);
        }
        check.due("8 changes", x.publish(0), 36);
        check.due("no change", x.publish(0), 4);
        for (int object : objects) {
            x.drop(0, object);
        }
        check.due("8 changes back", x.publish(0), 36);
        for (int object = 1; object <= 6; object++) {
            x.store(0, object);
        }
        check.due("11 changes are sent as a whole", x.publish(0), 40);
        check.due("mask(4, 0)", Long.bitCount(x.mask(4, 0)), 11);
        x.drop(0, 1);
        x.store(0, 0);
        check.due("4 changes, not 11 bits", x.publish(0), 20);
        check.due("count(0, 6)", x.count(0, 6), 36 + 4 + 36 + 40 + 20);
    }

    private static void publishAfterALinkWasDown() {
        DigestCaches x = new DigestCaches();
        x.setLink(1, 3, false);
        check.due("to three", x.publish(1), 3);
        x.setLink(1, 3, true);
        check.due("to three changes, to one a whole", x.publish(1), 13);
        check.due("all as changes", x.publish(1), 4);
        for (int to = 0; to < 5; to++) {
            x.setLink(1, to, false);
        }
        x.store(1, 17);
        check.due("to none", x.publish(1), 0);
        check.due("its version increases", x.version(1), 4);
        check.due("copies stay", x.copy(0, 1, 0), 3);
        x.setLink(1, 0, true);
        check.due("a whole, though nothing has changed since", x.publish(1), 10);
        check.due("mask(0, 1)", x.mask(0, 1), (1L << 22) + (1L << 28));
        check.due("mask(2, 1)", x.mask(2, 1), 0);
    }

    private static void publishOfNothing() {
        DigestCaches x = new DigestCaches();
        check.due("publish(3)", x.publish(3), 4);
        check.due("the version is 1", x.copy(0, 3, 0), 1);
        check.due("it is fresh", x.copy(0, 3, 3), 1);
        check.due("it expects nothing", x.expects(0, 3, 17), 0);
    }

    private static void wholeCostIsRoundedDown() {
        DigestCaches x = new DigestCaches();
        x.setFilters(11, 2);
        x.setLink(0, 1, false);
        x.publish(0);
        x.setLink(0, 1, true);
        check.due("2 + 11 / 4, and three changes of 1", x.publish(0), 7);
        x.setFilters(64, 1);
        x.setLink(0, 1, false);
        x.publish(0);
        x.setLink(0, 1, true);
        check.due("2 + 64 / 4, and three changes of 1", x.publish(0), 21);
    }

    private static void undoOfPublish() {
        DigestCaches x = new DigestCaches();
        x.store(0, 17);
        long before = x.digest();
        check.due("publish(0)", x.publish(0), 12);
        check.due("undo()", x.undo(), 1);
        check.due("digest()", x.digest(), before);
        check.due("the published mask is restored: 2 changes", x.publish(0), 12);
        check.due("no change", x.publish(0), 4);
    }

    private static void version() {
        check.says(21, "Returns the version of a cache.", "Returns the version; BAD_INDEX if there is no such cache.");
        DigestCaches x = new DigestCaches();
        x.publish(4);
        x.publish(4);
        x.publish(0);
        check.due("version(4)", x.version(4), 2);
        check.due("version(0)", x.version(0), 1);
        check.due("version(1)", x.version(1), 0);
        check.due("version(5)", x.version(5), -2);
        check.due("version(-1)", x.version(-1), -2);
    }

    private static void copy() {
        check.says(22, "Returns a property of a copy.");
        DigestCaches x = new DigestCaches();
        x.publish(0);
        x.pass(30);
        x.store(0, 17);
        x.store(0, 2);
        x.publish(0);
        x.pass(3);
        check.due("version", x.copy(4, 0, 0), 2);
        check.due("time", x.copy(4, 0, 1), 30);
        check.due("bits", x.copy(4, 0, 2), 3);
        check.due("fresh", x.copy(4, 0, 3), 1);
        check.due("different", x.copy(4, 0, 4), 0);
        check.due("the other way", x.copy(0, 4, 0), 0);
    }

    private static void copyDifference() {
        DigestCaches x = new DigestCaches();
        x.store(0, 17);
        check.due("before it is published", x.copy(1, 0, 4), 2);
        x.publish(0);
        x.store(0, 18);
        check.due("two bits more", x.copy(1, 0, 4), 2);
        x.drop(0, 17);
        check.due("and two less", x.copy(1, 0, 4), 4);
        check.due("its bits stay", x.copy(1, 0, 2), 2);
        x.store(1, 1);
        check.due("its own filter does not matter", x.copy(1, 0, 4), 4);
    }

    private static void copyWrong() {
        check.says(22, "Returns the property; BAD_INDEX if there is no such cache (either one); BAD_VALUE if both are the "
            + "same, or what is out of range.");
        DigestCaches x = new DigestCaches();
        check.due("copy(5, 0, 0)", x.copy(5, 0, 0), -2);
        check.due("copy(0, 5, 9)", x.copy(0, 5, 9), -2);
        check.due("copy(-1, -1, 0)", x.copy(-1, -1, 0), -2);
        check.due("copy(0, -1, 0)", x.copy(0, -1, 0), -2);
        check.due("copy(2, 2, 0)", x.copy(2, 2, 0), -3);
        check.due("copy(2, 3, -1)", x.copy(2, 3, -1), -3);
        check.due("copy(2, 3, 5)", x.copy(2, 3, 5), -3);
    }

    private static void freshness() {
        DigestCaches x = new DigestCaches();
        check.due("a version 0 is not fresh", x.copy(0, 1, 3), 0);
        x.publish(1);
        x.pass(100);
        check.due("at the age", x.copy(0, 1, 3), 1);
        x.pass(1);
        check.due("beyond", x.copy(0, 1, 3), 0);
        x.setRules(101, true, 2);
        check.due("with another age", x.copy(0, 1, 3), 1);
        x.setRules(0, true, 2);
        check.due("with the age 0", x.copy(0, 1, 3), 0);
        x.publish(1);
        check.due("at the same time", x.copy(0, 1, 3), 1);
    }

    private static void freshAtEachAge() {
        check.says(0, "A copy is fresh if the present time minus its time is at most the age (0 to 1000; 100 at first), "
            + "and its version is not 0.");
        for (int age : new int[] {0, 1, 2, 99, 100, 999, 1000}) {
            DigestCaches x = new DigestCaches();
            x.setRules(age, true, 2);
            check.due("version 0", x.copy(0, 1, 3), 0);
            x.pass(500);
            x.publish(1);
            check.due("at once", x.copy(0, 1, 3), 1);
            if (age > 0) {
                x.pass(age);
            }
            check.due("at the age " + age, x.copy(0, 1, 3), 1);
            x.pass(1);
            check.due("beyond the age " + age, x.copy(0, 1, 3), 0);
            x.publish(1);
            check.due("published again", x.copy(0, 1, 3), 1);
            check.due("the other way", x.copy(1, 0, 3), 0);
            x.setFilters(32, 2);
            check.due("version 0 again", x.copy(0, 1, 3), 0);
        }
        DigestCaches x = new DigestCaches();
        x.publish(1);
        x.pass(100);
        check.due("at the age at first", x.copy(4, 1, 3), 1);
        x.pass(1);
        check.due("beyond it", x.copy(4, 1, 3), 0);
        check.due("an age of 1001", x.setRules(1001, true, 2), -3);
        check.due("an age of -1", x.setRules(-1, true, 2), -3);
    }

    private static void expectsWhatIsFreshAndInTheMask() {
        check.says(0, "Cache a expects an object at cache b if its copy of b's digest is fresh, and the object is in its "
            + "mask.");
        DigestCaches x = new DigestCaches();
        x.setLink(2, 1, false);
        x.store(2, 17);
        x.publish(2);
        check.due("fresh and in the mask", x.expects(0, 2, 17), 1);
        check.due("fresh and not in the mask", x.expects(0, 2, 18), 0);
        check.due("where the digest did not come", x.expects(1, 2, 17), 0);
        x.pass(101);
        check.due("in the mask and not fresh", x.expects(0, 2, 17), 0);
        check.due("neither", x.expects(0, 2, 18), 0);
        x.setRules(101, true, 2);
        check.due("fresh again by the rules", x.expects(0, 2, 17), 1);
        x.drop(2, 17);
        x.publish(2);
        check.due("fresh, and in the mask no more", x.expects(0, 2, 17), 0);
    }

    private static void mask() {
        check.says(23, "Returns the mask of a copy.", "Returns the mask; BAD_INDEX if there is no such cache (either "
            + "one); BAD_VALUE if both are the same.");
        DigestCaches x = new DigestCaches();
        x.store(3, 2);
        x.publish(3);
        check.due("mask(0, 3)", x.mask(0, 3), 32);
        check.due("mask(3, 0)", x.mask(3, 0), 0);
        x.store(3, 17);
        check.due("it is late", x.mask(0, 3), 32);
        check.due("mask(5, 0)", x.mask(5, 0), -2);
        check.due("mask(0, 5)", x.mask(0, 5), -2);
        check.due("mask(-1, -1)", x.mask(-1, -1), -2);
        check.due("mask(1, 1)", x.mask(1, 1), -3);
    }

    private static void maskWithAllBits() {
        DigestCaches x = new DigestCaches();
        x.setFilters(64, 1);
        x.store(0, 8);
        x.publish(0);
        check.due("the bit 63", x.mask(1, 0), Long.MIN_VALUE);
        check.due("it is in the mask", x.expects(1, 0, 121), 1);
        x.store(0, 0);
        x.publish(0);
        check.due("the bits 63 and 7", x.mask(1, 0), Long.MIN_VALUE + 128);
    }

    private static void expects() {
        check.says(24, "Tells whether a cache expects an object at another one.");
        DigestCaches x = new DigestCaches();
        x.store(0, 17);
        check.due("before it is published", x.expects(1, 0, 17), 0);
        x.publish(0);
        check.due("expects(1, 0, 17)", x.expects(1, 0, 17), 1);
        check.due("expects(1, 0, 351), which is not held", x.expects(1, 0, 351), 1);
        check.due("expects(1, 0, 44), one of two bits", x.expects(1, 0, 44), 0);
        check.due("expects(0, 1, 17)", x.expects(0, 1, 17), 0);
        x.drop(0, 17);
        x.store(0, 18);
        check.due("late", x.expects(1, 0, 17), 1);
        check.due("too late", x.expects(1, 0, 18), 0);
        x.setLink(1, 0, false);
        check.due("links do not matter", x.expects(1, 0, 17), 1);
        x.pass(101);
        check.due("not fresh", x.expects(1, 0, 17), 0);
    }

    private static void expectsWrong() {
        check.says(24, "Returns 1 if it does, else 0; BAD_INDEX if there is no such cache (either one); BAD_VALUE if both "
            + "are the same, or object is out of range.");
        DigestCaches x = new DigestCaches();
        check.due("expects(5, 0, 0)", x.expects(5, 0, 0), -2);
        check.due("expects(0, 5, -1)", x.expects(0, 5, -1), -2);
        check.due("expects(-1, -1, 0)", x.expects(-1, -1, 0), -2);
        check.due("expects(1, 1, 0)", x.expects(1, 1, 0), -3);
        check.due("expects(1, 0, -1)", x.expects(1, 0, -1), -3);
        check.due("expects(1, 0, 1000)", x.expects(1, 0, 1000), -3);
        check.due("questions are not recorded", x.undo(), -4);
    }
}
