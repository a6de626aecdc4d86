import java.io.IOException;
import java.nio.file.Files;
import java.nio.file.Path;

/** What all tests share: it counts and prints answers that are not as due. */
final class Check {
    private static final Path DOCUMENT = Path.of("../shared/DOC.md");

    private static int checks;
    private static int wrong;
    private static String sentence = "";
    private static int checksBefore;

    private Check() {
    }

    /** The checks from here on are about these words of the document; they must stand there so. */
    static void sentence(String words) {
        endSentence();
        sentence = words;
        due("the words stand in the document", document().contains(words), true);
        checksBefore = checks;
    }

    private static void endSentence() {
        if (!sentence.isEmpty()) {
            due("the sentence has a check", checks > checksBefore, true);
        }
    }

    private static String document() {
        try {
            return Files.readString(DOCUMENT).replaceAll("\\s+", " ");
        } catch (IOException e) {
            return "";
        }
    }

    static void due(String what, long got, long want) {
        checks++;
        if (got != want) {
            tell(what, String.valueOf(got), String.valueOf(want));
        }
    }

    static void due(String what, boolean got, boolean want) {
        due(what, got ? 1 : 0, want ? 1 : 0);
    }

    static void due(String what, String got, String want) {
        checks++;
        if (!got.equals(want)) {
            tell(what, got, want);
        }
    }

    private static void tell(String what, String got, String want) {
        wrong++;
        String about = sentence.isEmpty() ? "" : "\"" + sentence + "\": ";
        System.out.println(about + what + " answered " + got + ", due is " + want);
    }

    static boolean allRight() {
        return wrong == 0;
    }

    static void end() {
        endSentence();
        System.out.println(checks + " checks, " + wrong + " wrong");
        if (wrong != 0 || checks == 0) {
            System.exit(1);
        }
    }
}
