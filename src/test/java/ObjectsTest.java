/** Promises 8 to 19: the objects that caches hold, and their filters. */
public final class ObjectsTest {
    private static final Check check = new Check("ObjectsTest");

    /** With M = 8 and K = 1 each of these is counted by the counter 0. */
    private static final int[] AT_ZERO = {7, 15, 23, 31, 34, 42, 50, 58};

    public static void main(String[] args) {
        tests();
        check.end();
    }

    static void tests() {
        store();
        storeDropsFirst();
        drop();
        dropWrong();
        stuckCounters();
        twiceTheSameCounter();
        rebuild();
        size();
        held();
        holds();
        counter();
        value();
        mayHold();
        chance();
        chanceOfAllBits();
        wrong();
        wrongOfAllBits();
        sized();
        sizedAtEachLimit();
        sizedChangesNothing();
    }

    private static void store() {
        check.says(8, "Stores an object in a cache. Recorded.", "Returns the object that is dropped; NONE if none is; "
            + "BAD_INDEX if there is no such cache; BAD_VALUE if object is out of range.");
        DigestCaches x = new DigestCaches();
        for (int object = 10; object < 18; object++) {
            check.due("store(3, " + object + ")", x.store(3, object), -1);
        }
        check.due("store of one that is held", x.store(3, 10), -1);
        check.due("it is at the front", x.held(3, 0), 10);
        check.due("the others keep their order", x.held(3, 1), 17);
        check.due("the last one", x.held(3, 7), 11);
        check.due("store(3, 999)", x.store(3, 999), 11);
        check.due("store(3, 0)", x.store(3, 0), 12);
        check.due("held(3, 0)", x.held(3, 0), 0);
        check.due("held(3, 1)", x.held(3, 1), 999);
        check.due("held(3, 2)", x.held(3, 2), 10);
        check.due("size(3)", x.size(3), 8);
        check.due("other caches hold nothing", x.size(2), 0);
        long before = x.digest();
        check.refused("store(-1, 1)", x, x.store(-1, 1), -2, before);
        check.refused("store(5, 1000)", x, x.store(5, 1000), -2, before);
        check.refused("store(0, 1000)", x, x.store(0, 1000), -3, before);
        check.refused("store(0, -1)", x, x.store(0, -1), -3, before);
        check.due("undo()", x.undo(), 3);
        check.due("held(3, 0)", x.held(3, 0), 999);
        check.due("undo()", x.undo(), 2);
        check.due("11 is back", x.held(3, 7), 11);
        check.due("undo of a use", x.undo(), 1);
        check.due("held(3, 7)", x.held(3, 7), 10);
    }

    private static void storeDropsFirst() {
        DigestCaches x = new DigestCaches();
        x.setFilters(8, 1);
        x.setCapacity(0, 6);
        for (int i = 0; i < 6; i++) {
            x.store(0, AT_ZERO[i]);
        }
        check.due("counter(0, 0)", x.counter(0, 0), 6);
        check.due("the last one is dropped", x.store(0, AT_ZERO[6]), 7);
        check.due("it is counted out before", x.counter(0, 0), 6);
        x.store(0, AT_ZERO[6]);
        check.due("a use is not counted", x.counter(0, 0), 6);
    }

    private static void drop() {
        check.says(9, "Drops an object from a cache. Recorded.");
        DigestCaches x = new DigestCaches();
        x.store(0, 1);
        x.store(0, 2);
        x.store(0, 3);
        check.due("drop(0, 2)", x.drop(0, 2), 2);
        check.due("held(0, 0)", x.held(0, 0), 3);
        check.due("held(0, 1)", x.held(0, 1), 1);
        check.due("held(0, 2)", x.held(0, 2), -2);
        check.due("it is counted out", x.counter(0, 5), 0);
        check.due("drop(0, 3)", x.drop(0, 3), 1);
        check.due("drop(0, 1)", x.drop(0, 1), 0);
        check.due("mayHold(0, 1)", x.mayHold(0, 1), 0);
        check.due("undo()", x.undo(), 3);
        check.due("held(0, 0)", x.held(0, 0), 1);
        check.due("mayHold(0, 1)", x.mayHold(0, 1), 1);
    }

    private static void dropWrong() {
        check.says(9, "Returns how many objects it holds then; BAD_INDEX if there is no such cache; BAD_VALUE if object "
            + "is out of range; BAD_STATE if it does not hold the object.");
        DigestCaches x = new DigestCaches();
        x.store(1, 999);
        long before = x.digest();
        check.refused("drop(5, 1)", x, x.drop(5, 1), -2, before);
        check.refused("drop(-1, -1)", x, x.drop(-1, -1), -2, before);
        check.refused("drop(1, 1000)", x, x.drop(1, 1000), -3, before);
        check.refused("drop(1, -1)", x, x.drop(1, -1), -3, before);
        check.refused("drop(0, 999)", x, x.drop(0, 999), -4, before);
        check.refused("drop(1, 998)", x, x.drop(1, 998), -4, before);
        check.due("errors are not recorded", x.undo(), 0);
    }

    private static void stuckCounters() {
        DigestCaches x = new DigestCaches();
        x.setFilters(8, 1);
        for (int i = 0; i < 8; i++) {
            x.store(0, AT_ZERO[i]);
            check.due("counter(0, 0) with " + (i + 1), x.counter(0, 0), Math.min(7, i + 1));
        }
        for (int i = 0; i < 8; i++) {
            x.drop(0, AT_ZERO[i]);
            check.due("7 stays 7", x.counter(0, 0), 7);
        }
        check.due("an empty cache may hold it", x.mayHold(0, 7), 1);
        check.due("rebuild(0)", x.rebuild(0), 1);
        check.due("counter(0, 0)", x.counter(0, 0), 0);
        check.due("undo()", x.undo(), 3);
        check.due("stuck again", x.counter(0, 0), 7);
        check.due("setFilters rebuilds too", x.setFilters(8, 1), 8);
        check.due("counter(0, 0)", x.counter(0, 0), 0);
    }

    private static void twiceTheSameCounter() {
        DigestCaches x = new DigestCaches();
        x.store(4, 2);
        check.due("both functions count", x.counter(4, 5), 2);
        x.store(4, 999);
        check.due("and those of 999, which are the same", x.counter(4, 5), 4);
        x.drop(4, 2);
        check.due("both count out", x.counter(4, 5), 2);
    }

    private static void rebuild() {
        check.says(10, "Rebuilds the filter of a cache. Recorded.",
            "Returns in how many counters it is different then; BAD_INDEX if there is no such cache.");
        DigestCaches x = new DigestCaches();
        x.setFilters(8, 1);
        x.setCapacity(2, 16);
        x.store(2, 0);
        for (int object : AT_ZERO) {
            x.store(2, object);
        }
        check.due("rebuild with 8 at the counter", x.rebuild(2), 0);
        x.drop(2, 7);
        x.drop(2, 15);
        check.due("6 are left, and 7 stays", x.counter(2, 0), 7);
        check.due("rebuild(2)", x.rebuild(2), 1);
        check.due("counter(2, 0)", x.counter(2, 0), 6);
        check.due("counter(2, 7)", x.counter(2, 7), 1);
        check.due("rebuild(2) again", x.rebuild(2), 0);
        check.due("rebuild(5)", x.rebuild(5), -2);
        check.due("rebuild(-1)", x.rebuild(-1), -2);
        check.due("a rebuild that changes nothing is recorded", x.undo(), 3);
        check.due("counter(2, 0)", x.counter(2, 0), 6);
        check.due("undo()", x.undo(), 2);
        check.due("counter(2, 0)", x.counter(2, 0), 7);
    }

    private static void size() {
        check.says(11, "Returns how many objects a cache holds.",
            "Returns the number; BAD_INDEX if there is no such cache.");
        DigestCaches x = new DigestCaches();
        for (int i = 0; i < 10; i++) {
            check.due("size(4)", x.size(4), Math.min(8, i));
            x.store(4, i);
        }
        check.due("size(0)", x.size(0), 0);
        check.due("size(5)", x.size(5), -2);
        check.due("size(-1)", x.size(-1), -2);
    }

    private static void held() {
        check.says(12, "Returns an object that a cache holds.");
        DigestCaches x = new DigestCaches();
        x.store(1, 0);
        x.store(1, 999);
        check.due("held(1, 0)", x.held(1, 0), 999);
        check.due("held(1, 1)", x.held(1, 1), 0);
        check.due("held(1, 2)", x.held(1, 2), -2);
        check.due("held(1, -1)", x.held(1, -1), -2);
        check.due("held(1, 100)", x.held(1, 100), -2);
        check.due("held(0, 0)", x.held(0, 0), -2);
        check.due("held(5, 0)", x.held(5, 0), -2);
        check.due("held(-1, 0)", x.held(-1, 0), -2);
    }

    private static void holds() {
        check.says(13, "Tells whether a cache holds an object.", "Returns 1 if it does, else 0; BAD_INDEX if there is no "
            + "such cache; BAD_VALUE if object is out of range.");
        DigestCaches x = new DigestCaches();
        x.store(1, 0);
        check.due("holds(1, 0)", x.holds(1, 0), 1);
        check.due("holds(0, 0)", x.holds(0, 0), 0);
        check.due("holds(1, 997), of the same values", x.holds(1, 997), 0);
        check.due("holds(1, 999)", x.holds(1, 999), 0);
        check.due("holds(5, -1)", x.holds(5, -1), -2);
        check.due("holds(-1, 0)", x.holds(-1, 0), -2);
        check.due("holds(1, -1)", x.holds(1, -1), -3);
        check.due("holds(1, 1000)", x.holds(1, 1000), -3);
        check.due("questions are not recorded", x.undo(), 0);
    }

    private static void counter() {
        check.says(14, "Returns a counter of the filter of a cache.");
        DigestCaches x = new DigestCaches();
        x.store(0, 17);
        for (int counter = 0; counter < 32; counter++) {
            check.due("counter " + counter, x.counter(0, counter), counter == 22 || counter == 28 ? 1 : 0);
        }
        check.due("counter(0, 32)", x.counter(0, 32), -2);
        check.due("counter(0, -1)", x.counter(0, -1), -2);
        check.due("counter(5, 0)", x.counter(5, 0), -2);
        check.due("counter(-1, 0)", x.counter(-1, 0), -2);
        x.setFilters(64, 1);
        x.store(0, 8);
        check.due("counter(0, 63)", x.counter(0, 63), 1);
        check.due("counter(0, 64)", x.counter(0, 64), -2);
    }

    private static void value() {
        check.says(15, "Returns a value of a function.");
        DigestCaches x = new DigestCaches();
        x.setFilters(64, 4);
        int[][] due = {{0, 7, 19, 43, 61}, {1, 38, 12, 62, 42}, {2, 5, 5, 17, 23}, {3, 36, 62, 36, 4},
            {17, 22, 28, 9, 21}, {18, 53, 48, 28, 29}, {997, 7, 19, 43, 61}, {999, 5, 5, 17, 23}};
        for (int[] row : due) {
            for (int function = 0; function < 4; function++) {
                check.due("value(" + row[0] + ", " + function + ")", x.value(row[0], function), row[function + 1]);
            }
        }
        check.due("value(0, 4)", x.value(0, 4), -3);
        check.due("value(0, -1)", x.value(0, -1), -3);
        check.due("value(-1, 0)", x.value(-1, 0), -3);
        check.due("value(1000, 0)", x.value(1000, 0), -3);
        x.setFilters(8, 3);
        check.due("value(17, 2)", x.value(17, 2), 1);
        check.due("value(17, 3)", x.value(17, 3), -3);
    }

    private static void mayHold() {
        check.says(16, "Tells whether an object is in the bits of the filter of a cache.", "Returns 1 if it is, else 0; "
            + "BAD_INDEX if there is no such cache; BAD_VALUE if object is out of range.");
        DigestCaches x = new DigestCaches();
        x.store(0, 17);
        check.due("mayHold(0, 17)", x.mayHold(0, 17), 1);
        check.due("mayHold(0, 351)", x.mayHold(0, 351), 1);
        check.due("mayHold(0, 44), one of two bits", x.mayHold(0, 44), 0);
        check.due("mayHold(0, 66), the other way", x.mayHold(0, 66), 0);
        check.due("mayHold(1, 17)", x.mayHold(1, 17), 0);
        check.due("mayHold(5, 17)", x.mayHold(5, 17), -2);
        check.due("mayHold(-1, 1000)", x.mayHold(-1, 1000), -2);
        check.due("mayHold(0, 1000)", x.mayHold(0, 1000), -3);
        check.due("mayHold(0, -1)", x.mayHold(0, -1), -3);
    }

    private static void chance() {
        check.says(17, "Returns the chance of a false hit by the filter of a cache, in thousandths: 1000 * b^K / M^K, "
            + "rounded down, where b is the number of its bits.",
            "Returns the chance; BAD_INDEX if there is no such cache.");
        DigestCaches x = new DigestCaches();
        check.due("of an empty filter", x.chance(0), 0);
        x.store(0, 17);
        check.due("1000 * 4 / 1024", x.chance(0), 3);
        x.store(0, 18);
        check.due("1000 * 16 / 1024", x.chance(0), 15);
        x.setFilters(64, 4);
        check.due("1000 * 7^4 / 64^4", x.chance(0), 0);
        x.setFilters(8, 1);
        check.due("1000 * 2 / 8", x.chance(0), 250);
        x.setFilters(8, 3);
        check.due("1000 * 5^3 / 8^3", x.chance(0), 244);
        check.due("chance(5)", x.chance(5), -2);
        check.due("chance(-1)", x.chance(-1), -2);
        x.setFilters(64, 4);
        x.setCapacity(0, 16);
        for (int object = 0; object < 16; object++) {
            x.store(0, object);
        }
        int bits = 0;
        for (int counter = 0; counter < 64; counter++) {
            bits += x.counter(0, counter) > 0 ? 1 : 0;
        }
        long due = 1000L * bits * bits * bits * bits / (64L * 64 * 64 * 64);
        check.due("of many bits", x.chance(0), due);
    }

    /** Of 8 bits none to all, by each number of functions. */
    private static void chanceOfAllBits() {
        for (int functions = 1; functions <= 4; functions++) {
            DigestCaches x = new DigestCaches();
            x.setFilters(8, functions);
            x.setCapacity(0, 16);
            for (int object = 0; object < 16; object++) {
                int bits = 0;
                for (int counter = 0; counter < 8; counter++) {
                    bits += x.counter(0, counter) > 0 ? 1 : 0;
                }
                double due = Math.floor(1000 * Math.pow(bits / 8.0, functions));
                check.due("of " + bits + " bits by " + functions, x.chance(0), (long) due);
                x.store(0, object);
            }
            check.due("of all bits by " + functions, x.chance(0), 1000);
        }
    }

    /** With all bits set every object is in them; with none, no object is. */
    private static void wrongOfAllBits() {
        for (int functions = 1; functions <= 4; functions++) {
            DigestCaches x = new DigestCaches();
            x.setFilters(8, functions);
            check.due("of no bits", x.wrong(1), 0);
            x.setCapacity(1, 16);
            for (int object = 984; object < 1000; object++) {
                x.store(1, object);
            }
            check.due("chance(1)", x.chance(1), 1000);
            check.due("all but the 16", x.wrong(1), 984);
            x.setCapacity(1, 1);
            x.rebuild(1);
            int due = 0;
            for (int object = 0; object < 999; object++) {
                boolean in = true;
                for (int function = 0; function < functions; function++) {
                    in &= x.counter(1, Values.value(8, object, function)) > 0;
                }
                due += in ? 1 : 0;
            }
            check.due("but for 999", x.wrong(1), due);
        }
    }

    private static void wrong() {
        check.says(18, "Counts the objects that are in the bits of the filter of a cache, but that it does not hold.",
            "Returns the number; BAD_INDEX if there is no such cache.");
        DigestCaches x = new DigestCaches();
        check.due("of an empty filter", x.wrong(0), 0);
        x.store(0, 17);
        check.due("351 and 399", x.wrong(0), 2);
        x.store(0, 351);
        check.due("399", x.wrong(0), 1);
        x.store(0, 18);
        check.due("with 18", x.wrong(0), 11);
        check.due("wrong(1)", x.wrong(1), 0);
        check.due("wrong(5)", x.wrong(5), -2);
        check.due("wrong(-1)", x.wrong(-1), -2);
        x.store(2, 3);
        check.due("310, 618, 925, and not 1000", x.wrong(2), 3);
        x.store(4, 997);
        check.due("0, 59, 602, 823, 835", x.wrong(4), 5);
        x.drop(4, 997);
        x.store(4, 2);
        check.due("999", x.wrong(4), 1);
        x.setFilters(8, 1);
        x.store(3, 0);
        for (int object : AT_ZERO) {
            x.store(3, object);
        }
        for (int object : AT_ZERO) {
            x.drop(3, object);
        }
        int due = 0;
        for (int object = 0; object < 1000; object++) {
            due += x.value(object, 0) == 0 ? 1 : 0;
        }
        check.due("of a counter that is stuck, with nothing held", x.wrong(3), due);
    }

    private static void sized() {
        check.says(19, "Returns the smallest M, 8 to 64, and the smallest K for it, with which a filter of the objects "
            + "that a cache holds would have a chance (as for chance()) of at most a limit.",
            "Returns 10 * M + K; NONE if there are none; BAD_INDEX if there is no such cache; BAD_VALUE if limit is out "
            + "of range.");
        DigestCaches x = new DigestCaches();
        check.due("of nothing", x.sized(0, 0), 81);
        check.due("of nothing, any chance", x.sized(0, 1000), 81);
        x.store(0, 17);
        check.due("sized(0, 1000)", x.sized(0, 1000), 81);
        check.due("sized(0, 125): 1 of 8", x.sized(0, 125), 81);
        check.due("sized(0, 124): 2^2 of 8^2 are 62", x.sized(0, 124), 82);
        check.due("sized(0, 62)", x.sized(0, 62), 82);
        check.due("sized(0, 61): 3^3 of 8^3 are 52, 4^4 of 8^4 are 62", x.sized(0, 61), 83);
        check.due("sized(0, 52)", x.sized(0, 52), 83);
        check.due("sized(0, 51): with 9 counters 2^2 of 9^2 are 49", x.sized(0, 51), 92);
        check.due("sized(5, -1)", x.sized(5, -1), -2);
        check.due("sized(-1, 0)", x.sized(-1, 0), -2);
        check.due("sized(0, -1)", x.sized(0, -1), -3);
        check.due("sized(0, 1001)", x.sized(0, 1001), -3);
        x.setCapacity(0, 16);
        for (int object = 0; object < 16; object++) {
            x.store(0, object);
        }
        check.due("there are none", x.sized(0, 0), -1);
        for (int object : new int[] {552, 942, 880, 561}) {
            x.store(1, object);
        }
        check.due("64 counters and 4 functions", x.sized(1, 1), 644);
        check.due("there are none", x.sized(1, 0), -1);
        for (int object : new int[] {441, 258, 721}) {
            x.store(2, object);
        }
        check.due("the bit 63 counts too", x.sized(2, 0), -1);
    }

    /** Every limit, against the chance that a filter so set has, of one object and of sixteen. */
    private static void sizedAtEachLimit() {
        for (int many = 1; many <= 16; many += 15) {
            int[][] chances = new int[65][5];
            for (int counters = 8; counters <= 64; counters++) {
                DigestCaches x = new DigestCaches();
                x.setCapacity(2, many);
                for (int object = 0; object < many; object++) {
                    x.store(2, 61 * object);
                }
                for (int functions = 1; functions <= 4; functions++) {
                    x.setFilters(counters, functions);
                    chances[counters][functions] = x.chance(2);
                }
            }
            DigestCaches x = new DigestCaches();
            x.setCapacity(2, many);
            for (int object = 0; object < many; object++) {
                x.store(2, 61 * object);
            }
            for (int limit = 0; limit <= 1000; limit += limit < 300 ? 1 : 50) {
                check.due("sized(2, " + limit + ") of " + many, x.sized(2, limit), smallest(chances, limit));
            }
        }
    }

    private static int smallest(int[][] chances, int limit) {
        for (int counters = 8; counters <= 64; counters++) {
            for (int functions = 1; functions <= 4; functions++) {
                if (chances[counters][functions] <= limit) {
                    return 10 * counters + functions;
                }
            }
        }
        return -1;
    }

    private static void sizedChangesNothing() {
        DigestCaches x = new DigestCaches();
        x.setFilters(8, 1);
        for (int object : AT_ZERO) {
            x.store(0, object);
        }
        for (int object : AT_ZERO) {
            x.drop(0, object);
        }
        x.store(0, 0);
        long before = x.digest();
        check.due("a new filter has no stuck counter", x.sized(0, 125), 81);
        check.due("digest()", x.digest(), before);
        check.due("undo()", x.undo(), 3);
    }
}
