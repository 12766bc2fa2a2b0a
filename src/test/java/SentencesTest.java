import java.io.IOException;
import java.nio.charset.StandardCharsets;
import java.nio.file.Files;
import java.nio.file.Path;

/** Every sentence of the document that an answer can show, with a test of its own; and none is left out. */
public final class SentencesTest {
    private SentencesTest() {
    }

    public static void main(String[] args) throws IOException {
        String document = Files.readString(Path.of("../shared/DOC.md"), StandardCharsets.UTF_8);
        FaceSentences.all(document);
        ThingsSentences.all();
        TickSentences.all();
        LogsSentences.all();
        TextsSentences.all();
        DoingSentences.all();
        ValuesSentences.all();
        WhatIfSentences.all();
        CommandsSentences.all();
        Sentence.coverTheDocument(document);
        Check.end();
    }
}
