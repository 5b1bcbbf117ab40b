import java.util.ArrayList;
import java.util.List;
import java.util.function.Supplier;

/** All that calls can show of an object: its state, the states of its history, its text and its way. */
final class Whole {
    private static final int MOST_STATES = 4;

    private Whole() {
    }

    /** What is seen of such an object, and of one after each number of undos. */
    static List<Long> seen(Supplier<DigestCaches> maker) {
        List<Long> answers = seenButTheWay(maker);
        DigestCaches x = maker.get();
        for (int index = 0; index <= 5; index++) {
            answers.add((long) x.way(index));
        }
        return answers;
    }

    /** As seen(), but without the way of the latest request. */
    static List<Long> seenButTheWay(Supplier<DigestCaches> maker) {
        List<Long> answers = new ArrayList<>();
        for (int undos = 0; undos <= MOST_STATES + 1; undos++) {
            // To look at one part may change another, so each look has an object of its own.
            lookAtSettings(undone(maker, undos, answers), answers);
            lookAtRequests(undone(maker, undos, answers), answers);
            lookAtState(undone(maker, undos, answers), answers);
        }
        return answers;
    }

    private static DigestCaches undone(Supplier<DigestCaches> maker, int undos, List<Long> answers) {
        DigestCaches x = maker.get();
        for (int i = 0; i < undos; i++) {
            answers.add((long) x.undo());
        }
        return x;
    }

    private static void lookAtSettings(DigestCaches x, List<Long> answers) {
        Check.pairs((from, to) -> {
            answers.add((long) x.setLink(from, to, true));
            answers.add((long) x.setDistance(from, to, 0));
        });
        answers.add((long) x.setRules(0, true, 0));
    }

    /** A request that goes as far as the limit of texts lets it shows this limit, and whether c stores. */
    private static void lookAtRequests(DigestCaches x, List<Long> answers) {
        answers.add((long) x.clearText());
        answers.add((long) Check.typed(x, "0:17").run());
        answers.add((long) x.count(0, 5));
        answers.add((long) x.holds(0, 17));
    }

    private static void lookAtState(DigestCaches x, List<Long> answers) {
        answers.add(x.digest());
        answers.add((long) x.textFault());
        answers.add((long) x.run());
        answers.add(x.digest());
        for (int cache = 0; cache < 5; cache++) {
            answers.add((long) x.publish(cache));
        }
        answers.add(x.digest());
    }

    /** An object of which all parts of the state are other than at first, with some states in its history. */
    static DigestCaches busy(int states) {
        DigestCaches x = new DigestCaches();
        x.setFilters(16, 3);
        x.setCapacity(1, 3);
        x.setCapacity(2, 16);
        x.pass(7);
        for (int cache = 1; cache < 5; cache++) {
            x.store(cache, 17);
            x.publish(cache);
            x.drop(cache, 17);
        }
        for (int object = 5; object < 10; object++) {
            x.store(0, object);
            x.store(1, object);
            x.store(2, 100 * object);
        }
        x.pass(3);
        x.publish(0);
        x.publish(2);
        x.store(2, 999);
        x.setLink(4, 0, false);
        x.setDistance(0, 3, 0);
        x.setRules(50, false, 3);
        x.request(3, 17, 2);
        x.store(3, 0);
        Check.typed(x, "0:17,5;2:700,1");
        for (int state = 0; state < MOST_STATES; state++) {
            x.store(4, 300 + state);
        }
        for (int state = MOST_STATES; state > states; state--) {
            x.undo();
        }
        return x;
    }

    /** A busy object whose text has no room left. */
    static DigestCaches full() {
        return Check.typed(busy(MOST_STATES), "0:1;".repeat(24) + "4:99");
    }
}
