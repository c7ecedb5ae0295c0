/** Each sentence of the document that names a boundary has tests of its own here, under its words. */
public final class SentencesTest {
    private SentencesTest() {
    }

    public static void main(String[] args) {
        TermSentences.look();
        RuleSentences.look();
        MarketSentences.look();
        MeetingSentences.look();
        MoonYearSentences.look();
        Sentences.end();
        Check.end();
    }
}
