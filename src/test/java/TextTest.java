import java.util.Random;
import java.util.regex.Matcher;
import java.util.regex.Pattern;

/** Promises 30 to 33: the text, its fault, and its requests. */
public final class TextTest {
    private static final Check check = new Check("TextTest");
    private static final Pattern LIST = list();

    public static void main(String[] args) {
        type();
        clearText();
        faults();
        allShortTexts();
        longTexts();
        run();
        runIsOneCall();
        runWrong();
        runOfTheLongestText();
        check.end();
    }

    private static Pattern list() {
        String number = " *[0-9]{1,3} *";
        String request = " *[0-4] *:" + number + "(," + number + ")*";
        return Pattern.compile(request + "(;" + request + ")*");
    }

    private static void type() {
        DigestCaches x = new DigestCaches();
        check.due("type(0)", x.type(0), 1);
        check.due("type(255)", x.type(255), 2);
        check.due("type(-1)", x.type(-1), -3);
        check.due("type(256)", x.type(256), -3);
        for (int length = 3; length <= 100; length++) {
            check.due("type to " + length, x.type(' '), length);
        }
        check.due("type beyond", x.type(' '), -5);
        check.due("a wrong byte beyond", x.type(256), -3);
        check.due("clearText()", x.clearText(), 100);
        check.due("type again", x.type('0'), 1);
        check.due("not recorded", x.undo(), -4);
    }

    private static void clearText() {
        DigestCaches x = new DigestCaches();
        check.due("clearText()", x.clearText(), 0);
        Check.typed(x, "0:1");
        check.due("clearText()", x.clearText(), 3);
        check.due("clearText() again", x.clearText(), 0);
        check.due("textFault()", x.textFault(), 0);
        check.due("not recorded", x.undo(), -4);
    }

    private static void fault(String text, int due) {
        check.due("textFault of '" + text + "'", Check.typed(new DigestCaches(), text).textFault(), due);
    }

    private static void faults() {
        fault("", 0);
        fault("   ", 3);
        fault("0", 1);
        fault("0:", 2);
        fault("0: ", 3);
        fault("0:1", -1);
        fault("4:999", -1);
        fault("5:1", 0);
        fault("00:1", 1);
        fault("0;1", 1);
        fault("0:,", 2);
        fault("0:1,", 4);
        fault("0:1;", 4);
        fault("0:1; ", 5);
        fault("0:1,;", 4);
        fault("0:1;;", 4);
        fault("0:1:2", 3);
        fault("0:1;5", 4);
        fault("0:1;2,3", 5);
        fault("  0  :  1  ,  2  ;  3  :  4  ", -1);
        fault("0:1 2", 4);
        fault("0:12 ,3", -1);
        fault("0:000", -1);
        fault("0:1000", 2);
        fault("0:1,  12345", 6);
        fault("0:1,123 4", 8);
        fault("0:1234x", 2);
        fault("0:123x", 5);
        fault("0:1\t", 3);
        fault("-0:1", 0);
        fault("0:-1", 2);
        fault("0:1" + (char) 160, 3);
        fault("0:/", 2);
        fault("0:1/", 3);
        fault("/", 0);
    }

    /** The fault as the pattern of the whole list tells it: the first byte after which no list can follow. */
    static int faultByPattern(String text) {
        for (int end = 1; end <= text.length(); end++) {
            Matcher start = LIST.matcher(text.substring(0, end));
            if (!start.matches() && !start.hitEnd()) {
                boolean tooLong = text.substring(0, end).matches("(?s).*[:, ][0-9]{4}");
                return tooLong ? end - 4 : end - 1;
            }
        }
        return LIST.matcher(text).matches() ? -1 : text.length();
    }

    private static void allShortTexts() {
        char[] signs = {'0', '4', '5', ':', ',', ';', ' ', 'a'};
        for (int length = 0; length <= 5; length++) {
            int many = 1 << 3 * length;
            for (int number = 0; number < many; number++) {
                StringBuilder text = new StringBuilder();
                for (int i = 0; i < length; i++) {
                    text.append(signs[number >> 3 * i & 7]);
                }
                fault(text.toString(), faultByPattern(text.toString()));
            }
        }
    }

    /** Lists that are right, and lists of which one byte has been changed. */
    private static void longTexts() {
        Random random = new Random(4);
        String signs = "0123456789:,; a";
        for (int round = 0; round < 4000; round++) {
            StringBuilder text = new StringBuilder();
            while (text.length() < 80 && random.nextInt(12) != 0) {
                text.append(text.length() == 0 ? "" : ";").append(blanks(random)).append(random.nextInt(5));
                text.append(blanks(random)).append(':');
                do {
                    text.append(blanks(random)).append(random.nextInt(1000)).append(blanks(random)).append(',');
                } while (text.length() < 80 && random.nextInt(3) != 0);
                text.setLength(text.length() - 1);
            }
            fault(text.toString(), faultByPattern(text.toString()));
            if (text.length() > 0) {
                text.setCharAt(random.nextInt(text.length()), signs.charAt(random.nextInt(signs.length())));
            }
            fault(text.toString(), faultByPattern(text.toString()));
        }
    }

    private static String blanks(Random random) {
        return " ".repeat(Math.max(0, random.nextInt(5) - 2));
    }

    private static void run() {
        DigestCaches x = Check.typed(new DigestCaches(), " 0 : 1 , 002 ,1; 4:999, 1;0:2 ");
        check.due("run()", x.run(), 2);
        check.due("held(0, 0)", x.held(0, 0), 2);
        check.due("held(0, 1)", x.held(0, 1), 1);
        check.due("held(4, 0)", x.held(4, 0), 1);
        check.due("held(4, 1)", x.held(4, 1), 999);
        check.due("count(0, 0)", x.count(0, 0), 2);
        check.due("count(0, 2)", x.count(0, 2), 2);
        check.due("count(4, 4)", x.count(4, 4), 1);
        check.due("way(0)", x.way(0), 0);
        check.due("way(1)", x.way(1), -1);
        check.due("the text stays", x.clearText(), 30);
        DigestCaches y = new DigestCaches();
        for (int cache = 1; cache < 4; cache++) {
            y.store(cache, 17);
            y.publish(cache);
            if (cache < 3) {
                y.drop(cache, 17);
            }
        }
        check.due("2 hops at first", Check.typed(y, "0:17").run(), 0);
        check.due("count(0, 5)", y.count(0, 5), 2);
        y.undo();
        y.setRules(100, true, 3);
        check.due("3 hops", y.run(), 1);
        check.due("way(3)", y.way(3), 3);
    }

    private static void runIsOneCall() {
        DigestCaches x = Check.typed(new DigestCaches(), "0:1,2,3,4,5;1:6,7");
        x.pass(1);
        long before = x.digest();
        check.due("run()", x.run(), 0);
        check.due("size(0)", x.size(0), 5);
        check.due("undo()", x.undo(), 1);
        check.due("digest()", x.digest(), before);
        check.due("the text stays", x.textFault(), -1);
        check.due("the way stays", x.way(0), 1);
    }

    private static void runWrong() {
        DigestCaches x = Check.typed(new DigestCaches(), "0:1,2;3:4x");
        long before = x.digest();
        check.refused("run()", x, x.run(), -4, before);
        check.due("no request was made", x.way(0), -1);
        check.due("not recorded", x.undo(), -4);
        x.clearText();
        check.refused("run() of an empty text", x, x.run(), -4, before);
        check.due("run() after mending", Check.typed(x, "0:1,2;3:4").run(), 0);
        check.due("undo()", x.undo(), 0);
    }

    private static void runOfTheLongestText() {
        StringBuilder text = new StringBuilder("0:1");
        for (int number = 2; text.length() < 99; number++) {
            text.append(',').append(number % 10);
        }
        text.append(' ');
        DigestCaches x = Check.typed(new DigestCaches(), text.toString());
        check.due("textFault()", x.textFault(), -1);
        check.due("run(): ten numbers again and again in a cache for eight", x.run(), 0);
        check.due("count(0, 2)", x.count(0, 2), 49);
        x.setCapacity(0, 10);
        check.due("run() with room for ten: all but two or so", x.run() >= 47 ? 1 : 0, 1);
    }
}
