import java.nio.charset.StandardCharsets;
import java.nio.file.Files;
import java.nio.file.Path;

/** A test for each sentence of the document, and that no sentence of it is without one; it runs in the project's folder. */
public final class SentencesTest {
    public static void main(String[] args) throws Exception {
        Check check = new Check("SentencesTest");
        Path path = Path.of("../shared/DOC.md");
        boolean isThere = Files.exists(path);
        Document document = new Document(isThere ? Files.readString(path, StandardCharsets.UTF_8) : "");
        Sentences[] groups = {
            new TermsSentences(check, document), new ChangesSentences(check, document), new NamesSentences(check, document),
            new BooksSentences(check, document), new WhatThereIsSentences(check, document), new WhatWouldBeSentences(check, document),
            new CountSentences(check, document), new TextSentences(check, document)
        };
        for (Sentences group : groups) {
            group.all();
        }
        if (isThere) {
            compare(check, document);
        } else {
            System.out.println("SentencesTest: there is no " + path + " to compare the sentences with");
        }
        check.end();
    }

    private static void compare(Check check, Document document) {
        for (String complaint : document.complaints()) {
            System.out.println(complaint);
        }
        check.due("sentences without a test, or not of the document", 0, document.complaints().size());
    }
}
