import java.io.IOException;

/** Each sentence of ../shared/DOC.md (its path is the argument) has a test of its own, just inside and just outside. */
public final class SentenceTest {
    public static void main(String[] args) throws IOException {
        Doc.read(args[0]);
        TermSentences.check();
        MessageSentences.check();
        RootSentences.check();
        TelegramSentences.check();
        PageSentences.check();
        CommandSentences.check();
        DenialSentences.check();
        UndoSentences.check();
        Doc.requireAll();
        Check.end("SentenceTest");
    }
}
