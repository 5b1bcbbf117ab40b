import java.util.Random;
import java.util.regex.Matcher;
import java.util.regex.Pattern;

/** Promises 30 to 33: the text, its fault, and its requests. */
public final class TextTest {
    private static final Check check = new Check("TextTest");
    private static final Pattern LIST = list();

    public static void main(String[] args) {
        tests();
        check.end();
    }

    static void tests() {
        type();
        clearText();
        roomForAHundred();
        faults();
        everyByteAtEachPlace();
        digitsOfNumbers();
        blanks();
        endsTooEarly();
        allShortTexts();
        longTexts();
        run();
        runWithEachLimit();
        runOfEachObject();
        runIsOneCall();
        runWrong();
        runOfTheLongestText();
    }

    private static Pattern list() {
        String number = " *[0-9]{1,3} *";
        String request = " *[0-4] *:" + number + "(," + number + ")*";
        return Pattern.compile(request + "(;" + request + ")*");
    }

    private static void type() {
        check.says(30, "Appends a byte to the text.", "Returns the length of the text; BAD_VALUE if code is out of range; "
            + "FULL if the text has 100 bytes.");
        DigestCaches x = new DigestCaches();
        check.due("type(0)", x.type(0), 1);
        check.due("type(255)", x.type(255), 2);
        check.due("type(-1)", x.type(-1), -3);
        check.due("type(256)", x.type(256), -3);
        for (int length = 3; length <= 100; length++) {
            check.due("type to " + length, x.type(' '), length);
        }
        check.due("type beyond", x.type(' '), -5);
        check.due("a wrong byte beyond", x.type(256), -3);
        check.due("clearText()", x.clearText(), 100);
        check.due("type again", x.type('0'), 1);
        check.due("not recorded", x.undo(), -4);
    }

    private static void clearText() {
        check.says(31, "Empties the text.", "Returns the length that it had.");
        DigestCaches x = new DigestCaches();
        check.due("clearText()", x.clearText(), 0);
        Check.typed(x, "0:1");
        check.due("clearText()", x.clearText(), 3);
        check.due("clearText() again", x.clearText(), 0);
        check.due("textFault()", x.textFault(), 0);
        check.due("not recorded", x.undo(), -4);
    }

    private static void roomForAHundred() {
        check.says(0, "Requests can be given by a text of at most 100 bytes with this grammar: list = request { \";\" "
            + "request } request = cache \":\" number { \",\" number }");
        String list = "0:12;4:345,6,78;".repeat(6) + "1:2;";
        DigestCaches x = Check.typed(new DigestCaches(), list.substring(0, 99));
        check.due("the last byte", x.type(';'), 100);
        check.due("one more", x.type('0'), -5);
        check.due("one more, though it is a blank", x.type(' '), -5);
        check.due("a list of 100 bytes without its end", x.textFault(), 100);
        check.due("run()", x.run(), -4);
        check.due("clearText()", x.clearText(), 100);
        String right = "0:12;4:345,6,78;".repeat(6) + "1:23";
        check.due("a list of 100 bytes", Check.typed(x, right).textFault(), -1);
        check.due("its 25 requests, of which 5 are new", x.run(), 25 - 5);
        check.due("clearText()", x.clearText(), 100);
        check.due("there is room again", x.type('0'), 1);
    }

    private static void fault(String text, int due) {
        check.due("textFault of '" + text + "'", Check.typed(new DigestCaches(), text).textFault(), due);
    }

    private static void faults() {
        check.says(32, "Checks the text.", "Returns its fault; NONE if it has none.");
        fault("", 0);
        fault("   ", 3);
        fault("0", 1);
        fault("0:", 2);
        fault("0: ", 3);
        fault("0:1", -1);
        fault("4:999", -1);
        fault("5:1", 0);
        fault("00:1", 1);
        fault("0;1", 1);
        fault("0:,", 2);
        fault("0:1,", 4);
        fault("0:1;", 4);
        fault("0:1; ", 5);
        fault("0:1,;", 4);
        fault("0:1;;", 4);
        fault("0:1:2", 3);
        fault("0:1;5", 4);
        fault("0:1;2,3", 5);
        fault("  0  :  1  ,  2  ;  3  :  4  ", -1);
        fault("0:1 2", 4);
        fault("0:12 ,3", -1);
        fault("0:000", -1);
        fault("0:1000", 2);
        fault("0:1,  12345", 6);
        fault("0:1,123 4", 8);
        fault("0:1234x", 2);
        fault("0:123x", 5);
        fault("0:1\t", 3);
        fault("-0:1", 0);
        fault("0:-1", 2);
        fault("0:1" + (char) 160, 3);
        fault("0:/", 2);
        fault("0:1/", 3);
        fault("/", 0);
    }

    /** The bytes that are allowed after a beginning; every other one of the 256 is the fault. */
    private static void allowedAfter(String start, String allowed) {
        for (int code = 0; code < 256; code++) {
            DigestCaches x = Check.typed(new DigestCaches(), start);
            x.type(code);
            boolean right = allowed.indexOf(code) >= 0;
            int got = x.textFault();
            check.holds("the byte " + code + " after '" + start + "', fault " + got,
                right ? got == -1 || got == start.length() + 1 : got == start.length());
        }
    }

    private static void everyByteAtEachPlace() {
        check.says(0, "The fault of the text is the position, from 0, of the first byte that is not allowed at its place "
            + "(for a number with more than 3 digits its first digit), or the length of the text, if it ends too early "
            + "(also if it is empty).");
        check.says(0, "A cache is a digit, 0 to 4;");
        String digits = "0123456789";
        for (String start : new String[] {"", " ", "0:1;", "0:1 ; ", "4:999;"}) {
            allowedAfter(start, "01234 ");
        }
        for (String start : new String[] {"0", " 4 ", "0:1;2", "0:1,5;3 "}) {
            allowedAfter(start, ": ");
        }
        for (String start : new String[] {"0:", "0: ", "0:1,", "3:12 , ", "0:1;2:"}) {
            allowedAfter(start, digits + " ");
        }
        for (String start : new String[] {"0:1", "0:12", "0: 0", "4:999,00", "0:1;2:34"}) {
            allowedAfter(start, digits + ",; ");
        }
        for (String start : new String[] {"0:1 ", "0:12  ", "0:123 ", "0:1,2 ", "0:1;2:3 "}) {
            allowedAfter(start, ",; ");
        }
        fault("0:1x,y", 3);
        fault("x0:1", 0);
        fault("0:1;4:2;5:3", 8);
    }

    private static void digitsOfNumbers() {
        check.says(0, "a number has 1 to 3 digits.");
        for (String start : new String[] {"0:", "4: ", "0:1,", "0:1 ,  ", "0:1;2:", "0:999,"}) {
            fault(start, start.length());
            for (int digits = 1; digits <= 6; digits++) {
                int due = digits <= 3 ? -1 : start.length();
                fault(start + "7".repeat(digits), due);
                fault(start + "0".repeat(digits), due);
                fault(start + "7".repeat(digits) + " ", due);
                fault(start + "7".repeat(digits) + ",1", due);
                fault(start + "7".repeat(digits) + ";1:1", due);
                fault(start + "7".repeat(digits) + "x", digits <= 3 ? start.length() + digits : start.length());
            }
        }
        fault("0:" + "1".repeat(98), 2);
        fault(" ".repeat(94) + "0:1234", 96);
        fault(" ".repeat(95) + "0:123", -1);
    }

    private static void blanks() {
        check.says(0, "Blanks (32) may stand anywhere except within numbers (a blank ends a number).");
        String list = "0:12,345;4:6";
        for (int at = 0; at <= list.length(); at++) {
            boolean within = at > 0 && at < list.length() && Character.isDigit(list.charAt(at - 1))
                && Character.isDigit(list.charAt(at));
            for (int many = 1; many <= 3; many++) {
                int due = within ? at + many : -1;
                fault(list.substring(0, at) + " ".repeat(many) + list.substring(at), due);
            }
        }
        fault(" ".repeat(100), 100);
        DigestCaches x = Check.typed(new DigestCaches(), " 0 : 12 , 345 ; 4 : 6 ");
        check.due("run()", x.run(), 0);
        check.due("held(0, 0)", x.held(0, 0), 345);
        check.due("held(0, 1)", x.held(0, 1), 12);
        check.due("held(4, 0)", x.held(4, 0), 6);
    }

    /** Each beginning of a list: it ends too early, or it is a list itself. */
    private static void endsTooEarly() {
        String list = " 0 : 1 , 23 ; 4:567,8;1:9";
        for (int length = 0; length <= list.length(); length++) {
            String start = list.substring(0, length).trim();
            boolean whole = !start.isEmpty() && Character.isDigit(start.charAt(start.length() - 1))
                && start.lastIndexOf(':') > start.lastIndexOf(';');
            fault(list.substring(0, length), whole ? -1 : length);
        }
        DigestCaches x = new DigestCaches();
        check.due("an empty text", x.textFault(), 0);
        check.due("run() of it", x.run(), -4);
        Check.typed(x, "0:1").clearText();
        check.due("a text that was emptied", x.textFault(), 0);
    }

    /** The fault as the pattern of the whole list tells it: the first byte after which no list can follow. */
    static int faultByPattern(String text) {
        for (int end = 1; end <= text.length(); end++) {
            Matcher start = LIST.matcher(text.substring(0, end));
            if (!start.matches() && !start.hitEnd()) {
                boolean tooLong = text.substring(0, end).matches("(?s).*[:, ][0-9]{4}");
                return tooLong ? end - 4 : end - 1;
            }
        }
        return LIST.matcher(text).matches() ? -1 : text.length();
    }

    private static void allShortTexts() {
        char[] signs = {'0', '4', '5', ':', ',', ';', ' ', 'a'};
        for (int length = 0; length <= 5; length++) {
            int many = 1 << 3 * length;
            for (int number = 0; number < many; number++) {
                StringBuilder text = new StringBuilder();
                for (int i = 0; i < length; i++) {
                    text.append(signs[number >> 3 * i & 7]);
                }
                fault(text.toString(), faultByPattern(text.toString()));
            }
        }
    }

    /** Lists that are right, and lists of which one byte has been changed. */
    private static void longTexts() {
        Random random = new Random(4);
        String signs = "0123456789:,; a";
        for (int round = 0; round < 4000; round++) {
            StringBuilder text = new StringBuilder();
            while (text.length() < 80 && random.nextInt(12) != 0) {
                text.append(text.length() == 0 ? "" : ";").append(blanks(random)).append(random.nextInt(5));
                text.append(blanks(random)).append(':');
                do {
                    text.append(blanks(random)).append(random.nextInt(1000)).append(blanks(random)).append(',');
                } while (text.length() < 80 && random.nextInt(3) != 0);
                text.setLength(text.length() - 1);
            }
            fault(text.toString(), faultByPattern(text.toString()));
            if (text.length() > 0) {
                text.setCharAt(random.nextInt(text.length()), signs.charAt(random.nextInt(signs.length())));
            }
            fault(text.toString(), faultByPattern(text.toString()));
        }
    }

    private static String blanks(Random random) {
        return " ".repeat(Math.max(0, random.nextInt(5) - 2));
    }

    private static void run() {
        check.says(33, "Makes the requests of the text, in their order.");
        DigestCaches x = Check.typed(new DigestCaches(), " 0 : 1 , 002 ,1; 4:999, 1;0:2 ");
        check.due("run()", x.run(), 2);
        check.due("held(0, 0)", x.held(0, 0), 2);
        check.due("held(0, 1)", x.held(0, 1), 1);
        check.due("held(4, 0)", x.held(4, 0), 1);
        check.due("held(4, 1)", x.held(4, 1), 999);
        check.due("count(0, 0)", x.count(0, 0), 2);
        check.due("count(0, 2)", x.count(0, 2), 2);
        check.due("count(4, 4)", x.count(4, 4), 1);
        check.due("way(0)", x.way(0), 0);
        check.due("way(1)", x.way(1), -1);
        check.due("the text stays", x.clearText(), 30);
        DigestCaches y = new DigestCaches();
        for (int cache = 1; cache < 4; cache++) {
            y.store(cache, 17);
            y.publish(cache);
            if (cache < 3) {
                y.drop(cache, 17);
            }
        }
        check.due("2 hops at first", Check.typed(y, "0:17").run(), 0);
        check.due("count(0, 5)", y.count(0, 5), 2);
        y.undo();
        y.setRules(100, true, 3);
        check.due("3 hops", y.run(), 1);
        check.due("way(3)", y.way(3), 3);
    }

    private static void runWithEachLimit() {
        check.says(0, "Each number is a request at this cache, with the limit of hops that is set for texts (2 at first).");
        DigestCaches x = Check.typed(Check.wronglyExpected(17, 1, 2, 3, 4), "0:17,351;0:399");
        check.due("run(): all three have the same bits", x.run(), 0);
        check.due("hops at first", x.count(0, 5), 3 * 2);
        x.undo();
        for (int limit = 0; limit <= 4; limit++) {
            x.setRules(100, false, limit);
            check.due("run()", x.run(), 0);
            check.due("hops with " + limit, x.count(0, 5), 3 * limit);
            check.due("too high", x.setRules(100, true, 5), -3);
            check.due("too low", x.setRules(100, true, -1), -3);
            check.due("a request with a limit of its own", x.request(0, 17, 4 - limit), 5);
            check.due("its hops", x.count(0, 5), 3 * limit + 4 - limit);
            x.undo();
            check.due("run() again", x.run(), 0);
            check.due("hops with " + limit, x.count(0, 5), 6 * limit);
            x.undo();
            x.undo();
        }
    }

    private static void runOfEachObject() {
        for (int object = 0; object < 1000; object++) {
            DigestCaches x = Check.typed(new DigestCaches(), object % 5 + ":" + object);
            check.due("run()", x.run(), 0);
            check.due("it asked for", x.held(object % 5, 0), object);
            Check.typed(x, object % 5 + ":" + "0".repeat(3 - ("" + object).length()) + object);
            check.due("with zeros before it", x.run(), 1);
            check.due("size", x.size(object % 5), 1);
        }
    }

    private static void runIsOneCall() {
        check.says(33, "Recorded, as one call.");
        DigestCaches x = Check.typed(new DigestCaches(), "0:1,2,3,4,5;1:6,7");
        x.pass(1);
        long before = x.digest();
        check.due("run()", x.run(), 0);
        check.due("size(0)", x.size(0), 5);
        check.due("undo()", x.undo(), 1);
        check.due("digest()", x.digest(), before);
        check.due("the text stays", x.textFault(), -1);
        check.due("the way stays", x.way(0), 1);
    }

    private static void runWrong() {
        check.says(33, "Returns how many of them the origin did not serve; BAD_STATE if the text has a fault.");
        DigestCaches x = Check.typed(new DigestCaches(), "0:1,2;3:4x");
        long before = x.digest();
        check.refused("run()", x, x.run(), -4, before);
        check.due("no request was made", x.way(0), -1);
        check.due("not recorded", x.undo(), -4);
        x.clearText();
        check.refused("run() of an empty text", x, x.run(), -4, before);
        check.due("run() after mending", Check.typed(x, "0:1,2;3:4").run(), 0);
        check.due("undo()", x.undo(), 0);
    }

    private static void runOfTheLongestText() {
        StringBuilder text = new StringBuilder("0:1");
        for (int number = 2; text.length() < 99; number++) {
            text.append(',').append(number % 10);
        }
        text.append(' ');
        DigestCaches x = Check.typed(new DigestCaches(), text.toString());
        check.due("textFault()", x.textFault(), -1);
        check.due("run(): ten numbers again and again in a cache for eight", x.run(), 0);
        check.due("count(0, 2)", x.count(0, 2), 49);
        x.setCapacity(0, 10);
        check.due("run() with room for ten: all but two or so", x.run() >= 47 ? 1 : 0, 1);
    }
}
