import java.util.ArrayList;
import java.util.List;
import java.util.Map;
import java.util.TreeMap;

/** Counts the answers that are not as due and prints each of them, with the sentence it breaks. */
final class Check {
    private static final Map<String, List<String>> QUOTED = new TreeMap<>();

    private final String section;
    private String sentence = "";
    private int wrong = 0;
    private int asked = 0;
    private int askedBefore = -1;

    /** The section of the document that the test is about. */
    Check(String section) {
        this.section = section;
    }

    /** Which sentences of each section have been tested so far. */
    static Map<String, List<String>> quoted() {
        return QUOTED;
    }

    /** Begins the test of one sentence; the words are the document's own. */
    void sentence(String words) {
        closeSentence();
        sentence = words;
        askedBefore = asked;
        if (!Document.says(section, words)) {
            wrong("these words do not stand in the document");
        }
        QUOTED.computeIfAbsent(section, name -> new ArrayList<>()).add(words);
    }

    void due(String call, long got, long want) {
        asked++;
        if (got != want) {
            wrong(call + " answered " + got + ", due is " + want);
        }
    }

    void same(String what, Object got, Object want) {
        asked++;
        if (!got.equals(want)) {
            wrong(what + " is " + got + ", due is " + want);
        }
    }

    boolean allAsDue() {
        return wrong == 0;
    }

    /** Ends the program with exit code 1 if an answer was wrong or none was asked for. */
    void end() {
        closeSentence();
        System.out.println(asked + " answers, " + wrong + " not as due");
        if (wrong != 0 || asked == 0) {
            System.exit(1);
        }
    }

    private void closeSentence() {
        if (asked == askedBefore) {
            wrong("nothing was asked");
        }
    }

    private void wrong(String what) {
        wrong++;
        System.out.println(section + (sentence.isEmpty() ? "" : " \"" + sentence + "\"") + ": " + what);
    }
}
