import java.io.IOException;
import java.nio.file.Files;
import java.nio.file.Path;
import java.util.ArrayList;
import java.util.List;

/** Runs the tests of all sentences, and holds the sentences against the document: each must have a test. */
public final class SentencesTest {
    private static final Path DOCUMENT = Path.of("../shared/DOC.md");

    // Words of the document that promise nothing by themselves.
    private static final String[] HEADINGS = {"TEXTS.", "==== 2. RUNS.", "==== 3. FACTS.", "==== 4. MENDS."};

    public static void main(String[] args) throws IOException {
        Sheet[] sheets = {new TextSentences(), new RunSentences(), new FactSentences(), new MendSentences()};
        List<String> quoted = new ArrayList<>();
        int wrong = 0;
        for (Sheet sheet : sheets) {
            sheet.check();
            wrong += sheet.wrong();
            quoted.addAll(sheet.quoted());
        }
        wrong += compare(quoted);
        System.out.println(wrong == 0 ? quoted.size() + " tests of sentences hold" : wrong + " faults of sentences");
        System.exit(wrong == 0 ? 0 : 1);
    }

    private static int compare(List<String> quoted) throws IOException {
        if (!Files.exists(DOCUMENT)) {
            System.out.println("no document to hold the sentences against");
            return 0;
        }
        String document = Files.readString(DOCUMENT);
        String promised = promised(document);
        StringBuilder left = new StringBuilder(promised);
        int wrong = 0;
        for (String sentence : quoted) {
            if (!blot(promised, sentence, left) && !document.contains(sentence)) {
                System.out.println("not in the document: " + sentence);
                wrong++;
            }
        }
        for (String heading : HEADINGS) {
            blot(promised, heading, left);
        }
        for (String part : left.toString().split("\n")) {
            if (!part.isBlank()) {
                System.out.println("without a test: " + part.strip());
                wrong++;
            }
        }
        return wrong;
    }

    private static boolean blot(String promised, String words, StringBuilder left) {
        int at = promised.indexOf(words);
        boolean found = at >= 0;
        while (at >= 0) {
            for (int k = at; k < at + words.length(); k++) {
                left.setCharAt(k, '\n');
            }
            at = promised.indexOf(words, at + 1);
        }
        return found;
    }

    private static String promised(String document) {
        String terms = document.substring(document.indexOf("## Terms"), document.indexOf("## Not promised"));
        String words = terms.replaceAll("(?m)^(## |```).*$", " ").replaceAll("(?m)^`[^`]*`:", " ");
        return words.replaceAll("\\s+", " ");
    }
}
