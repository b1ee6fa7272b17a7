import java.nio.file.Path;

/** All promises, sentence by sentence: each test names the promise and the sentence, none of the document is left out. */
public final class SentenceTest {
    public static void main(String[] args) throws Exception {
        Sentences s = new Sentences(Path.of(args.length > 0 ? args[0] : "../shared/DOC.md"));
        TextSentences.all(s);
        RoomSentences.all(s);
        ActSentences.all(s);
        RestSentences.all(s);
        HeardSentences.all(s);
        MeterSentences.all(s);
        SlotSentences.all(s);
        s.end();
    }
}
