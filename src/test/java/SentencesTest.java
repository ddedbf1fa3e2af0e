/** Each sentence of the document's terms and promises has a test of its own, which quotes it; none is left out. */
public final class SentencesTest {

    public static void main(String[] args) throws Exception {
        Doc.read();
        PictureSentences.ask();
        HouseSentences.ask();
        RuleSentences.ask();
        CrowdSentences.ask();
        StudioSentences.ask();
        MoneySentences.ask();
        Doc.allTold();
        Check.finish();
    }
}
