import java.nio.file.Path;

/** A test for each sentence of the document, and that no sentence of it is without one; it runs in the project's folder. */
public final class SentencesTest {
    public static void main(String[] args) throws Exception {
        Check check = new Check("SentencesTest");
        Document document = new Document(Path.of("../shared/DOC.md"));
        Sentences[] groups = {
            new TermsSentences(check, document), new ChangesSentences(check, document), new NamesSentences(check, document),
            new BooksSentences(check, document), new WhatThereIsSentences(check, document), new WhatWouldBeSentences(check, document),
            new CountSentences(check, document), new TextSentences(check, document)
        };
        for (Sentences group : groups) {
            group.all();
        }
        for (String complaint : document.complaints()) {
            System.out.println(complaint);
        }
        check.due("sentences without a test, or not of the document", 0, document.complaints().size());
        check.end();
    }
}
