import java.io.IOException;
import java.nio.file.Files;
import java.nio.file.Path;
import java.util.LinkedHashMap;
import java.util.Map;

/** The document's sentences: each check stands under the words that ask for it, and all words are to be quoted. */
final class Sentences {
    static final int NONE = -1, BAD = -2, NOT = -3, FULL = -4;
    static final int NULL = -11, INDEX = -12, CAST = -13, STORE = -14, SIZE = -15;
    static final int LEAST_INT = Integer.MIN_VALUE;
    static final long BAD_LONG = Long.MIN_VALUE + 2;

    private static final Path DOCUMENT = Path.of("../shared/DOC.md");
    /** What asks for nothing: the code of the face, signatures, the signs between parts, the interface's headings. */
    private static final String NO_SENTENCE = "(?s)```java.*?```|```text|```|Ahead of the calls [^.]*\\.|`[^`]*`:|======== [0-9]";
    private static final Map<String, String> SECTIONS = new LinkedHashMap<>();
    private static final Map<String, boolean[]> QUOTED = new LinkedHashMap<>();

    private static String section = "", words = "";
    private static int quotes, checks, wrong;

    private Sentences() { }

    /** Without the document (it is not the project's own) the checks run all the same. */
    static void readDocument() throws IOException {
        if (!Files.exists(DOCUMENT)) {
            System.out.println("no " + DOCUMENT + ": the sentences are not looked up");
            return;
        }
        for (String part : Files.readString(DOCUMENT).split("(?m)^## ")) {
            int end = part.indexOf('\n');
            String title = part.substring(0, Math.max(end, 0)).replaceAll(":.*", "");
            String text = part.substring(Math.max(end, 0)).replaceAll(NO_SENTENCE, " ").replaceAll("\\s+", " ");
            SECTIONS.put(title, text);
            QUOTED.put(title, new boolean[text.length()]);
        }
    }

    /** The checks that follow are of this sentence. */
    static void quote(String title, String sentence) {
        section = title;
        words = sentence;
        quotes++;
        if (SECTIONS.isEmpty()) {
            return;
        }
        String text = SECTIONS.getOrDefault(title, "");
        int at = text.indexOf(sentence);
        if (at < 0) {
            wrong++;
            System.out.println(title + " does not say: " + sentence);
        }
        for (int i = at; at >= 0 && i < at + sentence.length(); i++) {
            QUOTED.get(title)[i] = true;
        }
    }

    static void due(String call, long got, long want) {
        checks++;
        if (got != want) {
            wrong++;
            System.out.println(section + ", '" + words + "': " + call + " answered " + got + ", due is " + want);
        }
    }

    static void hold(String what, boolean holds) {
        due(what + " (1: so it is)", holds ? 1 : 0, 1);
    }

    /** A sentence of the terms or of a promise that no test quotes is a sentence without a test. */
    static void findUnquoted() {
        for (Map.Entry<String, String> entry : SECTIONS.entrySet()) {
            String title = entry.getKey(), text = entry.getValue();
            if (!title.equals("What it is") && !title.equals("Terms") && !title.startsWith("Promise")) {
                continue;
            }
            StringBuilder left = new StringBuilder();
            for (int i = 0; i < text.length(); i++) {
                left.append(QUOTED.get(title)[i] ? '|' : text.charAt(i));
            }
            for (String stretch : left.toString().split("\\|+")) {
                if (stretch.matches("(?s).*[A-Za-z0-9].*") && !isStory(stretch)) {
                    wrong++;
                    System.out.println(title + ": no test quotes '" + stretch.trim() + "'");
                }
            }
        }
    }

    /** The story at the beginning asks for nothing that is not said behind it. */
    private static boolean isStory(String stretch) {
        return stretch.trim().startsWith("The bow is repaid lower");
    }

    static void end() {
        System.out.println(quotes + " sentences, " + checks + " answers looked at, " + wrong + " not as due");
        if (wrong != 0) {
            System.exit(1);
        }
    }
}
