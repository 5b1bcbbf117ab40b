import java.util.function.BiConsumer;

/** Counts and prints the answers that are not as due. */
final class Check {
    /** One for all checks, so that SentencesTest can ask which words no test has quoted. */
    static final Document DOCUMENT = new Document();

    private final String name;
    private int asked;
    private int wrong;

    Check(String name) {
        this.name = name;
    }

    void due(String call, long got, long want) {
        asked++;
        if (got != want) {
            wrong++;
            System.out.println(name + ": " + call + " answered " + got + ", due is " + want);
        }
    }

    void holds(String what, boolean is) {
        due(what, is ? 1 : 0, 1);
    }

    /** What follows tests these words of a promise, of the description (part 0) or of what it is (part 35). */
    void says(int part, String... sentences) {
        for (String words : sentences) {
            holds("the document, part " + part + ", says: " + words, DOCUMENT.quote(part, words));
        }
    }

    /** Checks that a call with wrong arguments answers its error and leaves the hash as it was. */
    void refused(String call, DigestCaches x, long got, long want, long digestBefore) {
        due(call, got, want);
        due(call + ", then digest()", x.digest(), digestBefore);
    }

    /** Checks that the way of the latest request went over these caches and no more. */
    void route(DigestCaches x, int... caches) {
        for (int index = 0; index < caches.length; index++) {
            due("way(" + index + ")", x.way(index), caches[index]);
        }
        due("way(" + caches.length + ")", x.way(caches.length), -1);
    }

    /** Checks the counts of a cache, from 0 on. */
    void counts(DigestCaches x, int cache, int... counts) {
        for (int what = 0; what < counts.length; what++) {
            due("count(" + cache + ", " + what + ")", x.count(cache, what), counts[what]);
        }
    }

    /** Prints what was found and ends the program with exit code 1 if an answer was wrong. */
    void end() {
        System.out.println(name + ": " + asked + " answers, " + wrong + " not as due");
        if (wrong != 0) {
            System.exit(1);
        }
    }

    /** Empties the text of an object and types another one. */
    static DigestCaches typed(DigestCaches x, String text) {
        x.clearText();
        for (int i = 0; i < text.length(); i++) {
            x.type(text.charAt(i));
        }
        return x;
    }

    /** The caches given hold the object when they publish; afterwards they hold it no more. */
    static DigestCaches wronglyExpected(int object, int... caches) {
        DigestCaches x = new DigestCaches();
        for (int cache : caches) {
            x.store(cache, object);
            x.publish(cache);
            x.drop(cache, object);
        }
        return x;
    }

    /** Hands every ordered pair of different caches to the action. */
    static void pairs(BiConsumer<Integer, Integer> action) {
        for (int from = 0; from < 5; from++) {
            for (int to = 0; to < 5; to++) {
                if (from != to) {
                    action.accept(from, to);
                }
            }
        }
    }
}
