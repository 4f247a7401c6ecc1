import java.util.List;
import java.util.Map;
import java.util.TreeMap;

/** Promises 4 and 5 and THE TEXT of the Terms, sentence by sentence at its boundary. */
public final class TextEdgesTest {
    private static final List<String> MEASURES = List.of("age", "kind", "ill", "nights", "turned", "cold", "day");
    private static final List<String> FLAGS = List.of("dog", "climbs", "here");
    private static final List<String> ALL_TOKENS = List.of("age", "kind", "ill", "nights", "turned", "cold", "day",
            "dog", "climbs", "here", "when", "and", "not", "add", "bar", "last", "or", "a", "z", "ages", "whe", "0",
            "7", "9999", "12345", "00000", ":", ";", "<", ">", "=", "-", "#", "A", "/", "?", "");

    public static void main(String[] args) {
        blanks();
        bytesOfWords();
        bytesOfNumbers();
        signs();
        tokensGoAsLongAsTheyCan();
        everyLetterOfAWord();
        digitsOfNumbers();
        whatEachTokenMayFollow();
        placeOfAToken();
        placeOfTheEnd();
        longerRowsOfDigits();
        theFirstFaultCounts();
        sixteenLines();
        fourTests();
        formGoesAheadOfTooMany();
        theFirstOfTooMany();
        theTapeIsEmptyThen();
        asTheTextFromNowOn();
        howManyLines();
        noneForAFault();
        faultOfTheLatest();
        faultForAnotherWhat();
        Checks.close();
    }

    private static void good(String text, int lines) {
        NightShelter x = new NightShelter();
        Checks.same("text " + text, Checks.take(x, text), lines);
        Checks.same("fault(0) of " + text, x.fault(0), 0);
        Checks.same("fault(1) of " + text, x.fault(1), -1);
    }

    private static void bad(String text, int fault, int place) {
        NightShelter x = new NightShelter();
        Checks.same("text " + text, Checks.take(x, text), -1);
        Checks.same("fault(0) of " + text, x.fault(0), fault);
        Checks.same("fault(1) of " + text, x.fault(1), place);
    }

    private static boolean isLetter(int b) {
        return b >= 'a' && b <= 'z';
    }

    private static boolean isDigit(int b) {
        return b >= '0' && b <= '9';
    }

    private static void blanks() {
        Checks.sentence("blanks (10, 32) between");
        for (int b = 0; b < 256; b++) {
            String text = "bar" + (char) b + ";";
            if (b == 10 || b == 32) {
                good(text, 1);
            } else {
                bad(text, 1, isLetter(b) ? 0 : b == ';' ? 4 : 3);
            }
        }
        good("\n \nadd\n\n-  5 ;\n", 1);
        good("add-5;", 1);
        good(" ".repeat(496) + "bar;", 1);
        good("bar;" + "\n".repeat(496), 1);
        good(" ".repeat(500), 0);
        good("\n", 0);
    }

    private static void bytesOfWords() {
        Checks.sentence("WORDS, rows of letters a .. z");
        for (int b = 0; b < 256; b++) {
            boolean blank = b == 10 || b == 32;
            String before = (char) b + "last;";
            if (blank) {
                good(before, 1);
            } else {
                bad(before, 1, 0);
            }
            String behind = "when dog" + (char) b + "and here:bar;";
            if (blank) {
                good(behind, 1);
            } else {
                bad(behind, 1, isLetter(b) ? 5 : b == ':' ? 9 : 8);
            }
        }
    }

    private static void bytesOfNumbers() {
        Checks.sentence("NUMBERS, 1 to 4 digits");
        for (int b = 0; b < 256; b++) {
            String alone = "add " + (char) b + ";";
            if (isDigit(b)) {
                good(alone, 1);
            } else {
                bad(alone, 1, b == 10 || b == 32 || b == '-' ? 5 : 4);
            }
            String behind = "add 1" + (char) b + ";";
            if (isDigit(b) || b == 10 || b == 32) {
                good(behind, 1);
            } else {
                bad(behind, 1, b == ';' ? 6 : 5);
            }
        }
    }

    private static void signs() {
        Checks.sentence("signs : ; < > = - one byte each");
        for (int b = 0; b < 256; b++) {
            String text = "when age" + (char) b + "5:bar;";
            if (b == '<' || b == '>' || b == '=') {
                good(text, 1);
            } else if (b == 10 || b == 32) {
                bad(text, 1, 9);
            } else {
                bad(text, 1, isLetter(b) ? 5 : 8);
            }
        }
        bad("when age<<5:bar;", 1, 9);
        bad("when age<=5:bar;", 1, 9);
        bad("when age=>5:bar;", 1, 9);
        bad("when dog::bar;", 1, 9);
        bad("add --5;", 1, 5);
        bad("bar;;", 1, 4);
    }

    private static void tokensGoAsLongAsTheyCan() {
        Checks.sentence("TOKENS, as long as they go");
        bad("whendog:bar;", 1, 0);
        bad("when dogand here:bar;", 1, 5);
        bad("lastbar;", 1, 0);
        bad("ad d 5;", 1, 0);
        bad("add 1 2;", 1, 6);
        good("when age<5and dog:add5;", 1);
        good("add 5;add 5;", 2);
    }

    private static void everyLetterOfAWord() {
        Checks.sentence("TEXT: {LINE}. LINE: ['when' TEST {'and' TEST} ':'] ACT ';'.");
        for (String text : new String[] {"when not age=1:add 1;", "when climbs and here:bar;", "when nights=1:last;",
            "when turned=1 and ill=1:bar;", "when kind=1 and cold=1 and day=1 and dog:bar;"}) {
            good(text, 1);
            for (int at = 0; at < text.length(); at++) {
                if (isLetter(text.charAt(at))) {
                    spoilt(text, at);
                }
            }
        }
    }

    /* A letter that is another, wanting, or there twice makes another word of it. */
    private static void spoilt(String text, int at) {
        int first = at;
        while (first > 0 && isLetter(text.charAt(first - 1))) {
            first--;
        }
        bad(text.substring(0, at) + 'x' + text.substring(at + 1), 1, first);
        bad(text.substring(0, at) + text.substring(at + 1), 1, first);
        bad(text.substring(0, at) + text.charAt(at) + text.substring(at), 1, first);
    }

    private static void digitsOfNumbers() {
        Checks.sentence("NUMBERS, 1 to 4 digits");
        NightShelter x = Shelters.with(1);
        String[] numbers = {"0", "9", "10", "99", "100", "999", "1000", "9999", "0000", "0001", "0100"};
        for (String number : numbers) {
            Checks.same("LINES of add " + number, Checks.take(x, "add " + number + ";"), 1);
            Checks.same("POINTS by add " + number, x.points(0, false), Integer.parseInt(number));
            Checks.same("LINES of add -" + number, Checks.take(x, "add -" + number + ";"), 1);
            Checks.same("POINTS by add -" + number, x.points(0, false), -Integer.parseInt(number));
        }
        good("when age<0020:bar;", 1);
        bad("when age<00020:bar;", 1, 9);
        bad("add 10000;", 1, 4);
        bad("add -10000;", 1, 5);
    }

    /** The prefixes after which the same tokens may come, and these tokens; "" is the end. */
    private static Map<String, List<String>> grammar() {
        Map<String, List<String>> next = new TreeMap<>();
        List<String> numbers = List.of("0", "7", "9999");
        List<String> signs = List.of("<", ">", "=");
        List<String> subjects = List.of("age", "kind", "ill", "nights", "turned", "cold", "day", "dog", "climbs", "here");
        List<String> subjectsOrNot = List.of("not", "age", "kind", "ill", "nights", "turned", "cold", "day", "dog",
                "climbs", "here");
        for (String begin : List.of("", "bar;", "last;", "add 5;", "when dog:bar;")) {
            next.put(begin, List.of("when", "add", "bar", "last", ""));
        }
        for (String test : List.of("when", "when dog and", "when age<5 and", "bar; when")) {
            next.put(test, subjectsOrNot);
            next.put(test + " not", subjects);
            for (String measure : MEASURES) {
                next.put(test + " " + measure, signs);
                next.put(test + " not " + measure, signs);
                for (String sign : signs) {
                    next.put(test + " " + measure + sign, numbers);
                    next.put(test + " not " + measure + sign + "5", List.of("and", ":"));
                }
            }
            for (String flag : FLAGS) {
                next.put(test + " " + flag, List.of("and", ":"));
                next.put(test + " not " + flag, List.of("and", ":"));
                next.put(test + " " + flag + ":", List.of("add", "bar", "last"));
            }
        }
        for (String act : List.of("", "last;", "when dog:", "when age<5:")) {
            next.put(act + "add", List.of("-", "0", "7", "9999"));
            next.put(act + "add -", numbers);
            for (String whole : List.of("bar", "last", "add 5", "add -5")) {
                next.put(act + whole, List.of(";"));
            }
        }
        return next;
    }

    private static void whatEachTokenMayFollow() {
        Checks.sentence("1 the first byte or token with which no text goes on");
        grammar().forEach((before, next) -> {
            for (String token : ALL_TOKENS) {
                goesOn(before, token, next.contains(token));
            }
        });
    }

    /* Where the text goes on, the FAULT that is left is that of its end; a whole text has none. */
    private static void goesOn(String before, String token, boolean due) {
        String text = before + " " + token;
        boolean whole = token.equals(";") || token.isEmpty();
        if (due && whole) {
            good(text, (int) text.chars().filter(c -> c == ';').count());
        } else {
            bad(text, 1, due ? text.length() : before.length() + 1);
        }
    }

    private static void placeOfAToken() {
        Checks.sentence("FAULTS, with their places (a token's first byte; the end's)");
        bad("ban;", 1, 0);
        bad("  ban;", 1, 2);
        bad("bar;\n\nbarr;", 1, 6);
        bad(" ".repeat(499) + "x", 1, 499);
        bad(" ".repeat(496) + "when", 1, 500);
        bad(" ".repeat(490) + "bar; last5", 1, 499);
    }

    private static void placeOfTheEnd() {
        Checks.sentence("FAULTS, with their places (a token's first byte; the end's)");
        bad("add", 1, 3);
        bad("add ", 1, 4);
        bad("add\n \n", 1, 6);
        bad("when", 1, 4);
        bad("bar", 1, 3);
        bad("bar;last", 1, 8);
        bad("bar" + " ".repeat(497), 1, 500);
        good("", 0);
    }

    private static void longerRowsOfDigits() {
        Checks.sentence("(a longer row of digits is no token)");
        good("add 1234;", 1);
        bad("add 12345;", 1, 4);
        bad("add 00000;", 1, 4);
        bad("add -12345;", 1, 5);
        bad("add 123456789012345678901234567890;", 1, 4);
        bad("add " + "9".repeat(496), 1, 4);
        bad("12345", 1, 0);
        bad("bar 12345", 1, 4);
        bad("when age>12345:bar;", 1, 9);
        good("when age>1234:bar;", 1);
        bad("add 1234 5;", 1, 9);
    }

    private static void theFirstFaultCounts() {
        Checks.sentence("1 the first byte or token with which no text goes on");
        bad("ban;#;12345", 1, 0);
        bad("bar # ban", 1, 4);
        bad("add 12345 #", 1, 4);
        bad("bar;#bar", 1, 4);
    }

    private static void sixteenLines() {
        Checks.sentence("3 one too many, at its first token: a 17th LINE, a 5th TEST of a LINE.");
        good("bar;".repeat(15), 15);
        good("bar;".repeat(16), 16);
        bad("bar;".repeat(17), 3, 64);
        bad("bar;".repeat(16) + "  when dog:last;", 3, 66);
        bad("bar;".repeat(16) + "\nadd -5;", 3, 65);
        bad("bar;".repeat(18), 3, 64);
        bad("bar;".repeat(125), 3, 64);
        good("bar;".repeat(16) + " ".repeat(436), 16);
    }

    private static void fourTests() {
        Checks.sentence("3 one too many, at its first token: a 17th LINE, a 5th TEST of a LINE.");
        good("when dog and dog and dog:bar;", 1);
        good("when dog and dog and dog and dog:bar;", 1);
        bad("when dog and dog and dog and dog and dog:bar;", 3, 37);
        bad("when dog and dog and dog and dog and  not dog:bar;", 3, 38);
        bad("when dog and dog and dog and dog and age=5:bar;", 3, 37);
        bad("when dog and dog and dog and dog and dog and dog:bar;", 3, 37);
        good("when dog and dog and dog and dog:bar;when dog:bar;", 2);
        good("when dog and dog and dog and dog:bar;when dog and dog and dog and here:bar;", 2);
        bad("bar;when dog and dog and dog and dog and dog:bar;", 3, 41);
        bad("bar;".repeat(15) + "when dog and dog and dog and dog and dog:bar;", 3, 97);
    }

    private static void formGoesAheadOfTooMany() {
        Checks.sentence("If there is none: the first of these");
        bad("bar;".repeat(17) + "bar", 1, 71);
        bad("bar;".repeat(17) + "#", 1, 68);
        bad("bar;".repeat(16) + "ban;", 1, 64);
        bad("when dog and dog and dog and dog and dog:ban;", 1, 41);
        bad("when dog and dog and dog and dog and:bar;", 1, 36);
        bad("when dog and dog and dog and dog and dog:bar", 1, 44);
    }

    private static void theFirstOfTooMany() {
        Checks.sentence("If there is none: the first of these");
        String five = "when dog and dog and dog and dog and dog:bar;";
        bad(five + "bar;".repeat(16), 3, 37);
        bad("bar;".repeat(16) + five, 3, 64);
        bad("bar;".repeat(15) + five + "bar;", 3, 97);
        bad(five + five, 3, 37);
    }

    private static void theTapeIsEmptyThen() {
        Checks.sentence("The tape is taken (and is empty then), as THE TEXT from now on: how many LINES.");
        for (String text : new String[] {"bar;", "ban;", "bar;".repeat(17), "", "bar;".repeat(125)}) {
            NightShelter x = new NightShelter();
            Checks.take(x, text);
            Checks.same("end(1) after " + text, x.end(1), -1);
            Checks.same("end(0) after " + text, x.end(0), 0);
            Checks.same("feed after " + text, x.feed(0x6261723b, 0, 0, 0, 0), 20);
            x.end(4);
            Checks.same("the next text after " + text, x.text(), 1);
            Checks.same("an empty text after " + text, x.text(), 0);
        }
    }

    private static void asTheTextFromNowOn() {
        Checks.sentence("The tape is taken (and is empty then), as THE TEXT from now on: how many LINES.");
        NightShelter x = Shelters.with(1);
        Checks.feed(x, "add 7;");
        Checks.same("the tape alone gives no POINTS", x.points(0, false), 0);
        x.text();
        Checks.same("the TEXT does", x.points(0, false), 7);
        Checks.take(x, "add 2;add 1;");
        Checks.same("the next one, not both", x.points(0, false), 3);
        Checks.same("its LINES alone", x.count(5), 2);
        Checks.take(x, "add 4;");
        Checks.same("a shorter one: no LINE of the longer", x.points(0, false), 4);
        x.text();
        Checks.same("an empty one", x.points(0, false), 0);
        Checks.same("no LINES", x.count(5), 0);
    }

    private static void howManyLines() {
        Checks.sentence("The tape is taken (and is empty then), as THE TEXT from now on: how many LINES.");
        for (int lines = 0; lines <= 16; lines++) {
            NightShelter x = Shelters.with(1);
            Checks.same("text of " + lines, Checks.take(x, "add 1;".repeat(lines)), lines);
            Checks.same("count(5) of " + lines, x.count(5), lines);
            Checks.same("POINTS by " + lines, x.points(0, false), lines);
        }
    }

    private static void noneForAFault() {
        Checks.sentence("NONE: a FAULT.");
        for (String text : new String[] {"add 9", "#", "add 9;".repeat(17),
            "when dog and dog and dog and dog and dog:add 9;"}) {
            NightShelter x = Shelters.with(1);
            Checks.take(x, "add 5;add 2;");
            Checks.same("text " + text, Checks.take(x, text), -1);
            Checks.same("THE TEXT that was stays: LINES", x.count(5), 2);
            Checks.same("THE TEXT that was stays: POINTS", x.points(0, false), 7);
        }
    }

    private static void faultOfTheLatest() {
        Checks.sentence("Of the latest text(), what 0: the FAULT, 0 without, 1: its place, NONE without.");
        NightShelter x = new NightShelter();
        fault(x, "of none", 0, -1);
        Checks.take(x, "bar;bar");
        fault(x, "of form", 1, 7);
        Checks.feed(x, "last;");
        fault(x, "while the tape has another", 1, 7);
        x.text();
        fault(x, "of a good one", 0, -1);
        Checks.take(x, "bar;".repeat(17));
        fault(x, "of too many", 3, 64);
        Checks.take(x, "#");
        fault(x, "at place 0", 1, 0);
        x.text();
        fault(x, "of an empty one", 0, -1);
    }

    private static void fault(NightShelter x, String when, int fault, int place) {
        Checks.same("fault(0) " + when, x.fault(0), fault);
        Checks.same("fault(1) " + when, x.fault(1), place);
    }

    private static void faultForAnotherWhat() {
        Checks.sentence("NONE for another what.");
        NightShelter x = new NightShelter();
        Checks.take(x, "  bar");
        for (int what : new int[] {-1, 2, 3, 32, 256, Shelters.MIN, Shelters.MAX}) {
            Checks.same("fault(" + what + ")", x.fault(what), -1);
        }
        Checks.same("fault(0)", x.fault(0), 1);
        Checks.same("fault(1)", x.fault(1), 5);
    }
}
