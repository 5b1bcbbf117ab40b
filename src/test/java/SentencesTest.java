/** Every word of the description, of the promises and of what it is, is quoted by a test, of those that run here. */
public final class SentencesTest {
    public static void main(String[] args) {
        Check check = new Check("SentencesTest");
        StoryTest.tests();
        CachesTest.tests();
        SettingsTest.tests();
        ObjectsTest.tests();
        DigestsTest.tests();
        RequestsTest.tests();
        RoutesTest.tests();
        HistoryTest.tests();
        TextTest.tests();
        ErrorsTest.tests();
        check.says(Document.DESCRIPTION, "The constructor and the methods follow, a promise each: the signature, then what "
            + "it does.");
        for (int part = 0; part < Document.PARTS; part++) {
            for (String words : Check.DOCUMENT.unquoted(part)) {
                check.holds("a test quotes, of part " + part + ": " + words, false);
            }
            check.holds("part " + part + " is quoted", Check.DOCUMENT.unquoted(part).isEmpty());
        }
        check.end();
    }
}
