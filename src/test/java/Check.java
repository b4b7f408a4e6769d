import java.io.IOException;

/**
 * Goes through sections of the document, sentence by sentence, and counts the answers that are not due.
 * It fails, too, if a sentence isn't the document's, if nothing was tried of it, or if one was left out.
 */
final class Check {
    private final String name;
    private final Document document;
    private final String[] sections;
    private String section = "";
    private String sentence = "";
    private int triedOfIt = 1;
    private int sentences;
    private int tried;
    private int wrong;

    Check(String name, String document, String... sections) throws IOException {
        this.name = name;
        this.document = new Document(document);
        this.sections = sections;
    }

    void section(String section) {
        endSentence();
        this.section = section;
        sentence = "";
    }

    /** What is tried from here on is what the document says so. */
    void says(String sentence) {
        endSentence();
        this.sentence = sentence;
        triedOfIt = 0;
        sentences++;
        if (!document.say(section, sentence)) {
            fail("the document does not say so, or not once more");
        }
    }

    private void endSentence() {
        if (triedOfIt == 0) {
            fail("nothing was tried");
        }
        triedOfIt = 1;
    }

    void due(String call, long got, long want) {
        tried++;
        triedOfIt++;
        if (got != want) {
            fail(call + " answered " + got + ", due is " + want);
        }
    }

    void due(String what, boolean so) {
        due(what, so ? 1 : 0, 1);
    }

    private void fail(String what) {
        wrong++;
        System.out.println(name + ", section " + section + ", \"" + sentence + "\": " + what);
    }

    void end() {
        section("");
        for (String s : sections) {
            for (String left : document.left(s)) {
                section = s;
                fail("no test for \"" + left + "\"");
            }
        }
        System.out.println(name + ": " + sentences + " sentences, " + tried + " answers, " + wrong + " not as due");
        if (wrong > 0) {
            System.exit(1);
        }
    }
}
