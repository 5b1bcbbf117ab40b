import java.util.ArrayList;
import java.util.List;
import java.util.function.ToLongFunction;

/** The history: what is recorded, what is kept, and promise 29. */
public final class HistoryTest {
    private static final Check check = new Check("HistoryTest");

    /** A call by its name, with the promise that says whether it is recorded. */
    private record Call(int promise, String name, ToLongFunction<DigestCaches> made) {
    }

    public static void main(String[] args) {
        tests();
        check.end();
    }

    static void tests() {
        check.says(0, "History, errors");
        atMostFour();
        oldestIsDropped();
        recordedCallsAreUndone();
        recordedThoughNothingChanges();
        questionsChangeNothing();
        textIsNotRestored();
        wayIsNotRestored();
        undoIsNotRecorded();
        undo();
    }

    private static void atMostFour() {
        check.says(0, "A history of at most 4 states is kept.");
        for (int recorded = 0; recorded <= 9; recorded++) {
            DigestCaches x = new DigestCaches();
            for (int i = 0; i < recorded; i++) {
                x.pass(1);
            }
            for (int left = Math.min(4, recorded) - 1; left >= 0; left--) {
                check.due("undo() after " + recorded, x.undo(), left);
            }
            check.due("undo() of none", x.undo(), -4);
            check.due("the time after " + recorded, x.pass(1), Math.max(0, recorded - 4) + 1);
        }
    }

    private static void oldestIsDropped() {
        check.says(0, "when one more is recorded, the oldest one is dropped.");
        DigestCaches x = new DigestCaches();
        for (int object = 1; object <= 5; object++) {
            x.store(0, object);
        }
        for (int left = 3; left >= 0; left--) {
            check.due("undo()", x.undo(), left);
            check.due("size(0)", x.size(0), left + 1);
            check.due("held(0, 0)", x.held(0, 0), left + 1);
        }
        check.due("the state before the first is gone", x.undo(), -4);
        check.due("size(0)", x.size(0), 1);
    }

    private static List<Call> recorded() {
        return List.of(
            new Call(2, "setFilters", x -> x.setFilters(64, 1)),
            new Call(3, "setCapacity", x -> x.setCapacity(2, 1)),
            new Call(4, "setLink", x -> x.setLink(4, 0, true)),
            new Call(5, "setDistance", x -> x.setDistance(0, 3, 99)),
            new Call(6, "setRules", x -> x.setRules(1000, true, 1)),
            new Call(7, "pass", x -> x.pass(1000)),
            new Call(8, "store", x -> x.store(1, 999)),
            new Call(9, "drop", x -> x.drop(2, 700)),
            new Call(20, "publish", x -> x.publish(2)));
    }

    private static List<Call> recordedRequests() {
        return List.of(
            new Call(25, "request", x -> x.request(0, 17, 4)),
            new Call(33, "run", x -> x.run()));
    }

    /** With three states in the history a fourth finds room, and undo() must bring back all that was. */
    private static void recordedCallsAreUndone() {
        check.says(0, "The methods that are said to be recorded record the whole state (all but the text and the way of "
            + "the latest request) before each call that returns no error,");
        List<Long> before = Whole.seen(() -> Whole.busy(3));
        for (Call call : recorded()) {
            check.says(call.promise, "Recorded.");
            check.holds(call.name + " changes something", !before.equals(Whole.seen(() -> after(3, call))));
            check.holds(call.name + " is undone", before.equals(Whole.seen(() -> afterUndo(call))));
        }
        List<Long> beforeRequest = Whole.seenButTheWay(() -> Whole.busy(3));
        for (Call call : recordedRequests()) {
            check.says(call.promise, "Recorded");
            check.holds(call.name + " is undone", beforeRequest.equals(Whole.seenButTheWay(() -> afterUndo(call))));
        }
        for (int states = 0; states <= 4; states++) {
            for (List<Call> calls : List.of(recorded(), recordedRequests())) {
                for (Call call : calls) {
                    check.due("undo() after " + call.name, after(states, call).undo(), Math.min(3, states));
                }
            }
        }
    }

    private static DigestCaches after(int states, Call call) {
        DigestCaches x = Whole.busy(states);
        check.holds(call.name + " is no error", call.made.applyAsLong(x) >= -1);
        return x;
    }

    private static DigestCaches afterUndo(Call call) {
        DigestCaches x = after(3, call);
        check.due("undo()", x.undo(), 3);
        return x;
    }

    private static void recordedThoughNothingChanges() {
        check.says(0, "even if it changes nothing;");
        check.says(10, "Recorded.");
        List<Call> idle = List.of(
            new Call(2, "setFilters", x -> x.setFilters(32, 2)),
            new Call(3, "setCapacity", x -> x.setCapacity(0, 8)),
            new Call(4, "setLink", x -> x.setLink(0, 1, true)),
            new Call(5, "setDistance", x -> x.setDistance(0, 1, 1)),
            new Call(6, "setRules", x -> x.setRules(100, true, 2)),
            new Call(8, "store", x -> x.store(0, 17)),
            new Call(10, "rebuild", x -> x.rebuild(0)),
            new Call(10, "rebuild of nothing", x -> x.rebuild(4)));
        for (Call call : idle) {
            DigestCaches x = new DigestCaches();
            x.store(0, 17);
            long before = x.digest();
            check.holds(call.name + " is no error", call.made.applyAsLong(x) >= -1);
            check.due(call.name + " changes nothing", x.digest(), before);
            check.due("undo() of " + call.name, x.undo(), 1);
            check.due("17 is still held", x.holds(0, 17), 1);
            check.due("undo() of the store", x.undo(), 0);
            check.due("17 is held no more", x.holds(0, 17), 0);
        }
    }

    /** None of them is said to be recorded, and none changes the state, the text, the way or the history. */
    private static void questionsChangeNothing() {
        check.says(19, "Nothing is changed.");
        check.says(28, "without anything being changed.");
        List<Long> before = Whole.seen(() -> Whole.busy(4));
        for (ToLongFunction<DigestCaches> question : questions()) {
            check.holds("questions change nothing", before.equals(Whole.seen(() -> {
                DigestCaches x = Whole.busy(4);
                question.applyAsLong(x);
                return x;
            })));
        }
        check.holds("nor do all of them", before.equals(Whole.seen(() -> {
            DigestCaches x = Whole.busy(4);
            questions().forEach(question -> question.applyAsLong(x));
            return x;
        })));
    }

    private static List<ToLongFunction<DigestCaches>> questions() {
        List<ToLongFunction<DigestCaches>> asked = new ArrayList<>();
        for (int number = 0; number < 5; number++) {
            int cache = number;
            int other = (number + 1) % 5;
            asked.addAll(List.of(x -> x.size(cache), x -> x.held(cache, 0), x -> x.holds(cache, 17),
                x -> x.counter(cache, 3), x -> x.mayHold(cache, 17), x -> x.chance(cache), x -> x.wrong(cache)));
            asked.addAll(List.of(x -> x.sized(cache, 1000), x -> x.sized(cache, 0), x -> x.version(cache)));
            for (int property = 0; property < 5; property++) {
                int what = property;
                asked.add(x -> x.copy(cache, other, what));
            }
            asked.addAll(List.of(x -> x.mask(cache, other), x -> x.expects(cache, other, 17), x -> x.count(cache, 6),
                x -> x.wouldServe(cache, 17), x -> x.wouldServe(cache, 999)));
        }
        asked.addAll(List.of(x -> x.value(17, 2), x -> x.way(0), x -> x.textFault(), x -> x.digest()));
        return asked;
    }

    private static void textIsNotRestored() {
        DigestCaches x = Check.typed(new DigestCaches(), "0:1");
        x.pass(1);
        check.due("type(50)", x.type('2'), 4);
        check.due("undo()", x.undo(), 0);
        check.due("the text stays", x.textFault(), -1);
        check.due("run()", x.run(), 0);
        check.due("it asked for 12", x.held(0, 0), 12);
        check.due("clearText()", x.clearText(), 4);
        check.due("undo()", x.undo(), 0);
        check.due("it stays empty", x.clearText(), 0);
    }

    private static void wayIsNotRestored() {
        DigestCaches x = new DigestCaches();
        x.request(3, 1, 0);
        x.request(2, 1, 0);
        check.due("undo()", x.undo(), 1);
        check.due("the way of the second stays", x.way(0), 2);
        check.due("undo()", x.undo(), 0);
        check.due("it stays", x.way(0), 2);
        check.due("undo() of none", x.undo(), -4);
        check.due("it stays", x.way(0), 2);
    }

    private static void undoIsNotRecorded() {
        DigestCaches x = new DigestCaches();
        x.pass(1);
        x.pass(10);
        check.due("undo()", x.undo(), 1);
        check.due("undo() goes on back", x.undo(), 0);
        check.due("there is no way forward", x.undo(), -4);
        check.due("the time is 0", x.pass(5), 5);
        x.pass(100);
        check.due("undo()", x.undo(), 1);
        check.due("the time is 5", x.pass(1), 6);
        check.due("undo()", x.undo(), 1);
        check.due("undo()", x.undo(), 0);
        check.due("undo()", x.undo(), -4);
    }

    /** From each number of states down to none, each state as it was. */
    private static void undo() {
        check.says(0, "undo() removes and restores the latest one.");
        check.says(29, "Removes and restores the latest state of the history.",
            "Returns the number of states that are left in it; BAD_STATE if it is empty.");
        for (int states = 0; states <= 4; states++) {
            DigestCaches x = new DigestCaches();
            long[] digests = new long[states + 1];
            for (int i = 0; i < states; i++) {
                digests[i] = x.digest();
                x.store(i, 100 + i);
            }
            for (int left = states - 1; left >= 0; left--) {
                check.due("undo() of " + states, x.undo(), left);
                check.due("the state before", x.digest(), digests[left]);
            }
            check.due("undo() of none", x.undo(), -4);
        }
    }
}
