import java.util.Arrays;
import java.util.List;
import java.util.Map;

/** Every word of the terms and of the twelve promises stands in a sentence that some test is about. */
final class SentencesTest {
    private static final Check CHECK = new Check("The document");

    private SentencesTest() {
    }

    public static void main(String[] args) {
        runAllThatQuote(args);
        int promises = 0;
        for (Map.Entry<String, String> section : Document.sections().entrySet()) {
            if (section.getKey().equals("Terms") || section.getKey().startsWith("Promise ")) {
                promises++;
                CHECK.same("what no test of " + section.getKey() + " is about", untested(section), "");
            }
        }
        CHECK.due("the terms and twelve promises", promises, Document.sections().isEmpty() ? 0 : 13);
        CHECK.end();
    }

    private static void runAllThatQuote(String[] args) {
        TermsAirTest.main(args);
        TermsTakingTest.main(args);
        TermsSpeakingTest.main(args);
        TermsUsingTest.main(args);
        TermsRefusedTest.main(args);
        Promise01NewTest.main(args);
        Promise02GuardTest.main(args);
        Promise03WriteTest.main(args);
        Promise04SendTest.main(args);
        Promise05SlotTest.main(args);
        Promise06AirTest.main(args);
        Promise07FlipTest.main(args);
        Promise08HearTest.main(args);
        Promise09ReadTest.main(args);
        Promise10NextTest.main(args);
        Promise11StateTest.main(args);
        Promise12CountTest.main(args);
    }

    private static String untested(Map.Entry<String, String> section) {
        String text = section.getValue();
        // A promise begins with its method, which FaceTest looks at.
        int start = section.getKey().equals("Terms") ? 0 : text.indexOf("): ") + 2;
        char[] rest = text.substring(start).toCharArray();
        List<String> quotes = Check.quoted().getOrDefault(section.getKey(), List.of());
        for (String quote : quotes) {
            strike(rest, text.substring(start), Document.plain(quote));
        }
        return new String(rest).replaceAll("[^A-Za-z0-9]+", " ").strip();
    }

    private static void strike(char[] rest, String text, String quote) {
        for (int at = text.indexOf(quote); at >= 0; at = text.indexOf(quote, at + 1)) {
            Arrays.fill(rest, at, at + quote.length(), ' ');
        }
    }
}
