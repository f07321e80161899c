import java.io.IOException;

/** Each sentence of the terms and of the promises, with a test of its own beside it. */
public final class SentencesTest {
    private SentencesTest() {
    }

    public static void main(String[] args) throws IOException {
        Checks checks = new Checks("SentencesTest");
        Sentences sentences = new Sentences(checks);
        TermsSentences.all(sentences);
        TreeSentences.all(sentences);
        WordsSentences.all(sentences);
        PinsSentences.all(sentences);
        CursorSentences.all(sentences);
        KeysSentences.all(sentences);
        TypingSentences.all(sentences);
        SpeechSentences.all(sentences);
        RegionSentences.all(sentences);
        PromisesOfTree.all(sentences);
        PromisesOfKeys.all(sentences);
        PromisesOfSpeech.all(sentences);
        sentences.lookForOthers();
        checks.finish();
    }
}
