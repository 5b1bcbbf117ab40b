import java.lang.reflect.Method;
import java.util.ArrayList;
import java.util.Arrays;
import java.util.List;
import java.util.TreeSet;
import java.util.function.Supplier;

/** The errors: each argument of each method just within its range, just outside it and far from it. */
public final class ErrorsTest {
    private static final Check check = new Check("ErrorsTest");
    private static final int NONE = DigestCaches.NONE;
    private static final int BAD_INDEX = DigestCaches.BAD_INDEX;
    private static final int BAD_VALUE = DigestCaches.BAD_VALUE;
    private static final int BAD_STATE = DigestCaches.BAD_STATE;
    private static final int FULL = DigestCaches.FULL;
    private static final int NO_ERROR = 0;

    /** So many calls leave room to look at the object within its 512. */
    private static final int REFUSED_AT_ONCE = 60;

    /** An argument: the document's words on it, its range and the error outside it. */
    private record Argument(String words, int low, int high, int error) {
        int[] choices() {
            TreeSet<Integer> choices = new TreeSet<>(List.of(Integer.MIN_VALUE, low, high, Integer.MAX_VALUE));
            if (low != Integer.MIN_VALUE) {
                choices.add(low - 1);
            }
            if (high != Integer.MAX_VALUE) {
                choices.add(high + 1);
            }
            return choices.stream().mapToInt(choice -> choice).toArray();
        }

        boolean isWithin(int choice) {
            return choice >= low && choice <= high;
        }
    }

    /** A method whose first two arguments may have to be different caches. */
    private record Call(int promise, String name, boolean pair, List<Argument> arguments) {
    }

    public static void main(String[] args) {
        tests();
        check.end();
    }

    static void tests() {
        constants();
        List<Call> calls = calls();
        for (Call call : calls) {
            for (Argument argument : call.arguments) {
                check.says(call.promise, argument.words);
            }
            ranges(call, DigestCaches::new);
            ranges(call, () -> Whole.busy(2));
            ranges(call, Whole::full);
        }
        check.holds("the methods without arguments are five", calls.size() == 33 - 5);
        heldRange();
        counterRange();
        functionRange();
        severalErrors();
        noneOnlyWithoutAnError();
        badStateChangesNothing();
        fullChangesNothing();
    }

    private static void constants() {
        check.says(0, "NONE (-1) stands for \"there is none\".");
        check.says(0, "The error codes are BAD_INDEX (-2): there is no such cache, counter or index; BAD_VALUE (-3): "
            + "another argument is out of its range; BAD_STATE (-4): the call is not possible, as told; "
            + "FULL (-5): there is no room.");
        check.says(0, "The constants: - `NONE = -1, BAD_INDEX = -2, BAD_VALUE = -3, BAD_STATE = -4, FULL = -5`: "
            + "NONE: there is none. The others are error codes.");
        check.due("NONE", NONE, -1);
        check.due("BAD_INDEX", BAD_INDEX, -2);
        check.due("BAD_VALUE", BAD_VALUE, -3);
        check.due("BAD_STATE", BAD_STATE, -4);
        check.due("FULL", FULL, -5);
    }

    private static Argument cache(String words) {
        return new Argument(words, 0, 4, BAD_INDEX);
    }

    private static Argument value(String words, int low, int high) {
        return new Argument(words, low, high, BAD_VALUE);
    }

    private static Argument flag(String words) {
        return new Argument(words, 0, 1, NO_ERROR);
    }

    private static Call call(int promise, String name, Argument... arguments) {
        return new Call(promise, name, false, List.of(arguments));
    }

    private static Call pair(int promise, String name, Argument... arguments) {
        return new Call(promise, name, true, List.of(arguments));
    }

    /** The ranges that depend on the state are left wide here; they have tests of their own. */
    private static List<Call> calls() {
        Argument cache = cache("- `cache`: 0 to 4");
        Argument object = value("- `object`: 0 to 999", 0, 999);
        Argument from = cache("- `from`: 0 to 4");
        Argument to = cache("- `to`: another cache");
        Argument at = cache("- `at`: the cache that has it");
        Argument of = cache("- `of`: the other cache whose digest it is");
        List<Call> calls = new ArrayList<>(List.of(
            call(2, "setFilters", value("- `counters`: M, 8 to 64", 8, 64), value("- `functions`: K, 1 to 4", 1, 4)),
            call(3, "setCapacity", cache, value("- `capacity`: 1 to 16", 1, 16)),
            pair(4, "setLink", from, to, flag("- `up`: whether it is up")),
            pair(5, "setDistance", from, to, value("- `distance`: 0 to 99", 0, 99)),
            call(6, "setRules", value("- `age`: 0 to 1000", 0, 1000), flag("- `storing`: whether storing is on"),
                value("- `limit`: 0 to 4", 0, 4)),
            call(7, "pass", value("- `many`: 1 to 1000", 1, 1000)),
            call(8, "store", cache, object),
            call(9, "drop", cache, object),
            call(10, "rebuild", cache),
            call(11, "size", cache),
            call(12, "held", cache, new Argument("- `index`: its index, from 0, in the order of use", 0, 15, BAD_INDEX)),
            call(13, "holds", cache, object),
            call(14, "counter", cache, new Argument("- `counter`: 0 to M - 1", 0, 63, BAD_INDEX)),
            call(15, "value", object, value("- `function`: 0 to K - 1", 0, 3))));
        calls.addAll(List.of(
            call(16, "mayHold", cache, object),
            call(17, "chance", cache),
            call(18, "wrong", cache),
            call(19, "sized", cache, value("- `limit`: 0 to 1000", 0, 1000)),
            call(20, "publish", cache),
            call(21, "version", cache),
            pair(22, "copy", at, of, value("- `what`: 0 its version, 1 its time, 2 how many of its bits are set, "
                + "3: 1 if it is fresh, else 0; 4 in how many bits it is different from the bits of the filter of the "
                + "other cache now", 0, 4)),
            pair(23, "mask", at, of),
            pair(24, "expects", cache("- `at`: the cache"), cache("- `of`: the other cache"), object),
            call(25, "request", cache, object, value("- `limit`: the limit of hops, 0 to 4", 0, 4)),
            call(26, "way", value("- `index`: the index of a cache at which it was, from 0", 0, Integer.MAX_VALUE)),
            call(27, "count", cache, value("- `what`: 0 to 6", 0, 6)),
            call(28, "wouldServe", cache, object),
            call(30, "type", value("- `code`: the byte, 0 to 255", 0, 255))));
        return calls;
    }

    /** Every mix of choices: those that are refused change nothing, those that are not answer no BAD_VALUE. */
    private static void ranges(Call call, Supplier<DigestCaches> maker) {
        check.says(0, "A call that returns an error changes nothing.");
        List<int[]> refused = new ArrayList<>();
        for (int[] mix : mixes(call)) {
            int error = errorOf(call, mix);
            if (error == NO_ERROR) {
                accepted(call, maker.get(), mix);
            } else {
                refused.add(mix);
                check.due(call.name + Arrays.toString(mix), answer(call, maker.get(), mix), error);
            }
        }
        List<Long> before = Whole.seen(maker);
        for (int from = 0; from < refused.size(); from += REFUSED_AT_ONCE) {
            unchanged(call, maker, before, refused.subList(from, Math.min(refused.size(), from + REFUSED_AT_ONCE)));
        }
        // Each call with one fault alone too, since the second of two calls could undo what the first one does.
        for (int[] mix : refused) {
            if (faults(call, mix) == 1) {
                unchanged(call, maker, before, List.of(mix));
            }
        }
    }

    private static int faults(Call call, int[] mix) {
        int faults = call.pair && mix[0] == mix[1] ? 1 : 0;
        for (int i = 0; i < mix.length; i++) {
            faults += call.arguments.get(i).isWithin(mix[i]) ? 0 : 1;
        }
        return faults;
    }

    private static void unchanged(Call call, Supplier<DigestCaches> maker, List<Long> before, List<int[]> refused) {
        List<Long> after = Whole.seen(() -> {
            DigestCaches x = maker.get();
            refused.forEach(mix -> answer(call, x, mix));
            return x;
        });
        check.holds(refused.size() + " refused calls of " + call.name + " change nothing", before.equals(after));
    }

    private static void accepted(Call call, DigestCaches x, int[] mix) {
        long answer = answer(call, x, mix);
        switch (call.name) {
            case "held", "counter" -> check.holds(call.name + Arrays.toString(mix) + " is no BAD_VALUE",
                answer >= BAD_INDEX && answer != NONE);
            case "value" -> check.holds("value" + Arrays.toString(mix) + " is within the most counters",
                answer == BAD_VALUE || answer >= 0 && answer < 64);
            case "drop" -> check.holds("drop" + Arrays.toString(mix), answer == BAD_STATE || answer >= 0);
            case "type" -> check.holds("type" + Arrays.toString(mix), answer == FULL || answer >= 1);
            case "mask" -> check.holds("mask" + Arrays.toString(mix) + " of few counters", answer >= 0);
            default -> check.holds(call.name + Arrays.toString(mix) + " is no error: " + answer, answer >= NONE);
        }
    }

    private static List<int[]> mixes(Call call) {
        List<int[]> mixes = new ArrayList<>();
        mixes.add(new int[0]);
        for (Argument argument : call.arguments) {
            List<int[]> longer = new ArrayList<>();
            for (int[] mix : mixes) {
                for (int choice : argument.error == NO_ERROR ? new int[] {0, 1} : argument.choices()) {
                    int[] more = Arrays.copyOf(mix, mix.length + 1);
                    more[mix.length] = choice;
                    longer.add(more);
                }
            }
            mixes = longer;
        }
        return mixes;
    }

    /** BAD_INDEX comes before BAD_VALUE, wherever the arguments stand. */
    private static int errorOf(Call call, int[] mix) {
        int error = call.pair && mix[0] == mix[1] ? BAD_VALUE : NO_ERROR;
        for (int i = 0; i < mix.length; i++) {
            Argument argument = call.arguments.get(i);
            if (!argument.isWithin(mix[i]) && error != BAD_INDEX) {
                error = argument.error;
            }
        }
        return error;
    }

    private static long answer(Call call, DigestCaches x, int[] mix) {
        try {
            for (Method method : DigestCaches.class.getMethods()) {
                if (method.getName().equals(call.name)) {
                    Object[] arguments = new Object[mix.length];
                    for (int i = 0; i < mix.length; i++) {
                        boolean flag = call.arguments.get(i).error == NO_ERROR;
                        arguments[i] = flag ? (Object) (mix[i] == 1) : (Object) mix[i];
                    }
                    return ((Number) method.invoke(x, arguments)).longValue();
                }
            }
        } catch (ReflectiveOperationException thrown) {
            check.holds(call.name + Arrays.toString(mix) + " threw " + thrown.getCause(), false);
        }
        return Long.MAX_VALUE;
    }

    private static void heldRange() {
        check.says(12, "Returns the object; BAD_INDEX if there is no such cache or index.");
        for (int size = 0; size <= 16; size++) {
            DigestCaches x = new DigestCaches();
            x.setCapacity(3, 16);
            for (int object = 0; object < size; object++) {
                x.store(3, object);
            }
            for (int index = -2; index <= 18; index++) {
                boolean there = index >= 0 && index < size;
                check.due("held(3, " + index + ") of " + size, x.held(3, index), there ? size - 1 - index : BAD_INDEX);
            }
            check.due("held(3, MAX)", x.held(3, Integer.MAX_VALUE), BAD_INDEX);
            check.due("held(3, MIN)", x.held(3, Integer.MIN_VALUE), BAD_INDEX);
            check.due("another cache has no such index", x.held(2, 0), BAD_INDEX);
        }
    }

    private static void counterRange() {
        check.says(14, "Returns the counter; BAD_INDEX if there is no such cache or counter.");
        for (int m = 8; m <= 64; m++) {
            DigestCaches x = new DigestCaches();
            x.setFilters(m, 1);
            x.store(0, Values.objectsAt(m, 1, m - 1, 1, 1)[0]);
            x.store(0, Values.objectsAt(m, 1, 0, 1, 1)[0]);
            check.due("the first of " + m, x.counter(0, 0), 1);
            check.due("before it", x.counter(0, -1), BAD_INDEX);
            check.due("the last of " + m, x.counter(0, m - 1), 1);
            check.due("beyond it", x.counter(0, m), BAD_INDEX);
            check.due("of no cache", x.counter(5, m - 1), BAD_INDEX);
        }
    }

    private static void functionRange() {
        check.says(15, "Returns the number of the counter; BAD_VALUE if object is out of range, or there is no such "
            + "function.");
        for (int k = 1; k <= 4; k++) {
            DigestCaches x = new DigestCaches();
            x.setFilters(64, k);
            for (int function = -1; function <= 5; function++) {
                boolean there = function >= 0 && function < k;
                check.due("value(999, " + function + ") of " + k, x.value(999, function),
                    there ? Values.value(64, 999, function) : BAD_VALUE);
                check.due("value(1000, " + function + ")", x.value(1000, function), BAD_VALUE);
                check.due("value(-1, " + function + ")", x.value(-1, function), BAD_VALUE);
            }
        }
    }

    private static void severalErrors() {
        check.says(0, "If several apply to a call, the first one in this order is returned;");
        DigestCaches x = new DigestCaches();
        x.store(0, 1);
        check.due("drop: no such cache, no such object", x.drop(5, 1000), BAD_INDEX);
        check.due("drop: no such object, which it does not hold", x.drop(0, 1000), BAD_VALUE);
        check.due("drop: not held", x.drop(0, 2), BAD_STATE);
        check.due("setLink: no such cache, both the same", x.setLink(5, 5, true), BAD_INDEX);
        check.due("setDistance: both the same, too far", x.setDistance(1, 1, 100), BAD_VALUE);
        check.due("setDistance: the second is no cache, too far", x.setDistance(1, 5, 100), BAD_INDEX);
        check.due("copy: the second is no cache, no such property", x.copy(1, -1, 9), BAD_INDEX);
        check.due("expects: the second is no cache, no such object", x.expects(0, 5, -1), BAD_INDEX);
        check.due("request: no such cache, object or limit", x.request(-1, -1, -1), BAD_INDEX);
        check.due("sized: no such cache or limit", x.sized(5, 1001), BAD_INDEX);
        check.due("count: no such cache or count", x.count(5, 7), BAD_INDEX);
        DigestCaches full = Whole.full();
        check.due("type: no byte, no room", full.type(256), BAD_VALUE);
        check.due("type: no byte, no room", full.type(-1), BAD_VALUE);
        check.due("type: no room", full.type(255), FULL);
    }

    private static void noneOnlyWithoutAnError() {
        check.says(0, "NONE is returned only if no error applies.");
        DigestCaches x = new DigestCaches();
        check.due("store: none is dropped", x.store(0, 1), NONE);
        check.due("store: none is dropped, no such object", x.store(0, 1000), BAD_VALUE);
        check.due("store: none is dropped, no such cache", x.store(5, 1), BAD_INDEX);
        x.setCapacity(0, 16);
        for (int object = 0; object < 16; object++) {
            x.store(0, object);
        }
        check.due("way: no request", x.way(0), NONE);
        check.due("way: no request, a negative index", x.way(-1), BAD_VALUE);
        check.due("sized: there are none", x.sized(0, 0), NONE);
        check.due("sized: there are none, no such limit", x.sized(0, -1), BAD_VALUE);
        check.due("sized: there are none, no such cache", x.sized(-1, 0), BAD_INDEX);
    }

    private static void badStateChangesNothing() {
        for (int states = 0; states <= 4; states++) {
            int kept = states;
            List<Long> before = Whole.seen(() -> Whole.busy(kept));
            check.holds("drop of what is not held, with " + states, before.equals(Whole.seen(() -> {
                DigestCaches x = Whole.busy(kept);
                check.due("drop(0, 17)", x.drop(0, 17), BAD_STATE);
                return x;
            })));
            Supplier<DigestCaches> faulty = () -> Check.typed(Whole.busy(kept), "0:17,5;2:700,");
            List<Long> beforeRun = Whole.seen(faulty);
            check.holds("run of a text with a fault, with " + states, beforeRun.equals(Whole.seen(() -> {
                DigestCaches x = faulty.get();
                check.due("run()", x.run(), BAD_STATE);
                return x;
            })));
        }
        List<Long> before = Whole.seen(() -> Whole.busy(0));
        check.holds("undo of an empty history", before.equals(Whole.seen(() -> {
            DigestCaches x = Whole.busy(0);
            check.due("undo()", x.undo(), BAD_STATE);
            return x;
        })));
    }

    private static void fullChangesNothing() {
        List<Long> before = Whole.seen(Whole::full);
        check.holds("type beyond the room", before.equals(Whole.seen(() -> {
            DigestCaches x = Whole.full();
            check.due("type(49)", x.type('1'), FULL);
            return x;
        })));
        // Only calls beyond the 512th can reach the end of the time.
        List<Long> late = Whole.seen(ErrorsTest::atTheEndOfTime);
        check.holds("pass beyond the end of the time", late.equals(Whole.seen(() -> {
            DigestCaches x = atTheEndOfTime();
            check.due("pass(2)", x.pass(2), FULL);
            return x;
        })));
    }

    private static DigestCaches atTheEndOfTime() {
        DigestCaches x = Whole.busy(4);
        for (int i = 0; i < 999; i++) {
            x.pass(1000);
        }
        x.request(1, 2, 4);
        check.due("1 before the end", x.pass(989), 999999);
        // Fresh digests that are wrong, for requests to follow.
        for (int cache = 1; cache < 5; cache++) {
            x.store(cache, 17);
            x.publish(cache);
            x.drop(cache, 17);
        }
        return x;
    }
}
