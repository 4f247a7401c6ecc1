import java.io.IOException;
import java.nio.file.Files;
import java.nio.file.Path;

/** What the tests share: they compare answers, print those that are not due, and end with 1 if there were any. */
final class Checks {
    private static final Path DOCUMENT = Path.of("../shared/DOC.md");

    private static int made = 0;
    private static int wrong = 0;
    private static String sentence = "";
    private static String document;

    private Checks() {
    }

    /** What is looked at from here on is what this sentence of the document says. */
    static void sentence(String words) {
        sentence = "[" + words + "] ";
        if (!document().isEmpty() && !document().contains(folded(words))) {
            same("the document has these words", false, true);
        }
    }

    private static String document() {
        if (document == null) {
            document = readDocument();
        }
        return document;
    }

    /* Without the document the tests still hold; only the words above them can't be looked up. */
    private static String readDocument() {
        try {
            return Files.exists(DOCUMENT) ? folded(Files.readString(DOCUMENT)) : "";
        } catch (IOException e) {
            return "";
        }
    }

    private static String folded(String words) {
        return words.replace("&lt;", "<").replace("&gt;", ">").replaceAll("\\s+", " ");
    }

    static void same(String call, long got, long due) {
        made++;
        if (got != due) {
            wrong++;
            System.out.println(sentence + call + " answered " + got + ", due is " + due);
        }
    }

    static void same(String call, boolean got, boolean due) {
        same(call, got ? 1 : 0, due ? 1 : 0);
    }

    static void close() {
        System.out.println(made + " answers looked at, " + wrong + " of them wrong");
        if (wrong != 0 || made == 0) {
            System.exit(1);
        }
    }

    /** Feeds a text, with blanks behind it that end() cuts off again, and takes it. */
    static int take(NightShelter shelter, String text) {
        feed(shelter, text);
        return shelter.text();
    }

    static void feed(NightShelter shelter, String text) {
        StringBuilder padded = new StringBuilder(text);
        while (padded.length() % 20 != 0) {
            padded.append(' ');
        }
        shelter.end(0);
        for (int i = 0; i < padded.length(); i += 20) {
            shelter.feed(number(padded, i), number(padded, i + 4), number(padded, i + 8),
                    number(padded, i + 12), number(padded, i + 16));
        }
        same("end after feeding " + text, shelter.end(text.length()), text.length());
    }

    /** Four bytes of a text as one number, the highest first. */
    static int number(CharSequence text, int at) {
        int number = 0;
        for (int i = at; i < at + 4; i++) {
            number = number << 8 | text.charAt(i) & 255;
        }
        return number;
    }
}
