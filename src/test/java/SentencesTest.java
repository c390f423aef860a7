import java.nio.file.Path;

/** Each sentence of the document that names a boundary case has a test of its own, told beside its words. */
public final class SentencesTest {
    public static void main(String[] args) throws Exception {
        Due.is("the document is named", args.length, 2);
        Sentence.readAll(Path.of(args[1]));
        DescriptionSentences.hold();
        CellsAndTextSentences.hold();
        ReadingAndWritingSentences.hold();
        NumbersSentences.hold();
        AskedSentences.hold();
        WouldBeSentences.hold();
        Sentence.noneIsLeft();
        Due.end();
    }
}
