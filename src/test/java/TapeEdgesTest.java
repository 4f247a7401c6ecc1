/** Promises 1 to 3, sentence by sentence at its boundary: a new object, feed and end. */
public final class TapeEdgesTest {
    private static final int BLANKS = 0x20202020;

    public static void main(String[] args) {
        nothingIsInANewObject();
        aNewObjectHasNoText();
        aNewObjectIsAtEveningZero();
        aNewObjectHasAnEmptyTapeAndNoImages();
        highestByteFirst();
        everyByteComesAsItIs();
        numbersComeInTheirOrder();
        feedSaysHowManyItHas();
        atMostFiveHundred();
        nothingComesIfRefused();
        endKeepsTheFirst();
        endOfMoreThanThereIs();
        endBelowZero();
        refusedEndKeepsAll();
        Checks.close();
    }

    private static int blanks(NightShelter x) {
        return x.feed(BLANKS, BLANKS, BLANKS, BLANKS, BLANKS);
    }

    /** A tape with so many feeds of blanks. */
    private static NightShelter fed(int feeds) {
        NightShelter x = new NightShelter();
        for (int i = 0; i < feeds; i++) {
            blanks(x);
        }
        return x;
    }

    private static void nothingIsInANewObject() {
        Checks.sentence("No ROOMS, no PEOPLE, no PAIRS, no HELPERS");
        NightShelter x = new NightShelter();
        for (int what = 0; what <= 7; what++) {
            Checks.same("count(" + what + ")", x.count(what), 0);
        }
        Checks.same("tell(0, 0)", x.tell(0, 0), -1);
        Checks.same("ill(0, 0)", x.ill(0, 0), false);
        Checks.same("bar(0, true)", x.bar(0, true), false);
        Checks.same("pair(0, 1, 0)", x.pair(0, 1, 0), false);
        Checks.same("points(0, false)", x.points(0, false), Shelters.NOBODY);
        Checks.same("duty(0, 0)", x.duty(0, 0), -1);
        Checks.same("duty(0, 1)", x.duty(0, 1), -1);
        Checks.same("called(0)", x.called(0), false);
        Checks.same("the first ROOM", x.room(1, 0, false, false, 0), 0);
        Checks.same("the first of the PEOPLE", x.person(0, 1, false, false), 0);
        Checks.same("the first HELPER", x.helper(1, 1), 0);
    }

    private static void aNewObjectHasNoText() {
        Checks.sentence("no TEXT (all have 0 POINTS)");
        NightShelter x = Shelters.with(24);
        for (int person = 0; person < 24; person++) {
            Checks.same("points(" + person + ", false)", x.points(person, false), 0);
            Checks.same("points(" + person + ", true)", x.points(person, true), 0);
        }
        Checks.same("LINES", x.count(5), 0);
        Checks.same("fault(0)", x.fault(0), 0);
        Checks.same("fault(1)", x.fault(1), -1);
    }

    private static void aNewObjectIsAtEveningZero() {
        Checks.sentence("evening 0");
        NightShelter x = Shelters.with(1);
        Checks.same("book(0, 0)", x.book(0, 0), -1);
        Checks.same("told(0, 0)", x.told(0, 0), -1);
        Checks.take(x, "when day=0 and not here:add 1;");
        Checks.same("it is day 0, and nobody slept here", x.points(0, false), 1);
        x.evening(1, false);
        Checks.same("the first evening is number 0", x.book(0, 0), 1);
        Checks.same("and there is no other", x.book(1, 0), -1);
    }

    private static void aNewObjectHasAnEmptyTapeAndNoImages() {
        Checks.sentence("the tape is empty, no images");
        NightShelter x = new NightShelter();
        Checks.same("end(1)", x.end(1), -1);
        Checks.same("end(0)", x.end(0), 0);
        for (int k = 0; k < 3; k++) {
            Checks.same("again(" + k + ")", x.again(k), false);
        }
        Checks.same("an empty tape is a TEXT of no LINES", x.text(), 0);
        Checks.same("without a FAULT", x.fault(0), 0);
        Checks.same("twenty bytes are the first", blanks(x), 20);
    }

    private static void highestByteFirst() {
        Checks.sentence("of each number the highest first");
        String text = "when age>45:add 17;\n";
        for (int at = 0; at < 20; at++) {
            StringBuilder spoilt = new StringBuilder(text);
            spoilt.setCharAt(at, '#');
            NightShelter x = new NightShelter();
            x.feed(Checks.number(spoilt, 0), Checks.number(spoilt, 4), Checks.number(spoilt, 8),
                    Checks.number(spoilt, 12), Checks.number(spoilt, 16));
            x.text();
            Checks.same("place of a byte that was put at " + at, x.fault(1), firstFault(text, at));
        }
    }

    /* A byte inside a word or a number spoils it from its first byte on; a sign or a blank has its own place. */
    private static int firstFault(String text, int at) {
        boolean insideOrBehind = at > 0 && Character.isLetter(text.charAt(at)) && Character.isLetter(text.charAt(at - 1));
        if (!insideOrBehind) {
            return at;
        }
        int first = at;
        while (first > 0 && Character.isLetter(text.charAt(first - 1))) {
            first--;
        }
        return first;
    }

    private static void everyByteComesAsItIs() {
        Checks.sentence("Twenty bytes come behind the tape");
        for (int b = 0; b < 256; b++) {
            NightShelter x = new NightShelter();
            x.feed(BLANKS, BLANKS, BLANKS, BLANKS, BLANKS - 0x20 + b);
            boolean blank = b == 10 || b == 32;
            Checks.same("byte " + b + " as the last: text()", x.text(), blank ? 0 : -1);
            Checks.same("byte " + b + " as the last: its place", x.fault(1), blank ? -1 : 19);
            NightShelter y = new NightShelter();
            y.feed(b << 24 | 0x202020, BLANKS, BLANKS, BLANKS, BLANKS);
            Checks.same("byte " + b + " as the first: text()", y.text(), blank ? 0 : -1);
            Checks.same("byte " + b + " as the first: its place", y.fault(1), blank ? -1 : 0);
        }
    }

    private static void numbersComeInTheirOrder() {
        Checks.sentence("Twenty bytes come behind the tape");
        NightShelter x = Shelters.with(1);
        x.feed(0x61646420, 0x313b6164, 0x64203130, 0x3b616464, 0x20313030);
        x.feed(0x303b2020, BLANKS, BLANKS, BLANKS, BLANKS);
        Checks.same("add 1;add 10;add 1000 over two feeds: LINES", x.text(), 3);
        Checks.same("and its POINTS", x.points(0, false), 1011);
    }

    private static void feedSaysHowManyItHas() {
        Checks.sentence("how many it has");
        NightShelter x = new NightShelter();
        Checks.same("behind nothing", blanks(x), 20);
        x.end(1);
        Checks.same("behind one", blanks(x), 21);
        x.end(0);
        Checks.same("behind nothing again", blanks(x), 20);
        x.text();
        Checks.same("behind a tape that was taken", blanks(x), 20);
    }

    private static void atMostFiveHundred() {
        Checks.sentence("NONE, and nothing comes, if there would be more than 500.");
        NightShelter x = fed(24);
        Checks.same("from 480 to 500", blanks(x), 500);
        Checks.same("from 500", blanks(x), -1);
        x.end(499);
        Checks.same("from 499", blanks(x), -1);
        x.end(481);
        Checks.same("from 481 to 501", blanks(x), -1);
        x.end(480);
        Checks.same("from 480 to 500 again", blanks(x), 500);
        x.end(479);
        Checks.same("from 479 to 499", blanks(x), 499);
    }

    private static void nothingComesIfRefused() {
        Checks.sentence("NONE, and nothing comes, if there would be more than 500.");
        NightShelter x = fed(25);
        x.end(481);
        Checks.same("refused", x.feed(0x23232323, 0x23232323, 0x23232323, 0x23232323, 0x23232323), -1);
        Checks.same("it has no 482", x.end(482), -1);
        Checks.same("it has 481", x.end(481), 481);
        Checks.same("and they are blanks", x.text(), 0);
        NightShelter y = fed(25);
        y.feed(0x23232323, 0x23232323, 0x23232323, 0x23232323, 0x23232323);
        Checks.same("a full tape is as it was", y.text(), 0);
    }

    private static void endKeepsTheFirst() {
        Checks.sentence("The tape has its first n bytes alone: n.");
        NightShelter x = Shelters.with(1);
        x.feed(0x61646420, 0x313b6164, 0x64203130, 0x3b616464, 0x20313030);
        Checks.same("end(6)", x.end(6), 6);
        Checks.same("the first LINE alone", x.text(), 1);
        Checks.same("and its POINTS", x.points(0, false), 1);
        NightShelter y = fed(25);
        Checks.same("end(500)", y.end(500), 500);
        Checks.same("end(499)", y.end(499), 499);
        Checks.same("end(1)", y.end(1), 1);
        Checks.same("end(0)", y.end(0), 0);
        Checks.same("end(0) of none", y.end(0), 0);
    }

    private static void endOfMoreThanThereIs() {
        Checks.sentence("NONE if it has not so many, or n is below 0.");
        NightShelter x = new NightShelter();
        Checks.same("end(1) of none", x.end(1), -1);
        blanks(x);
        Checks.same("end(21) of 20", x.end(21), -1);
        Checks.same("end(MAX) of 20", x.end(Shelters.MAX), -1);
        Checks.same("end(20) of 20", x.end(20), 20);
        Checks.same("end(19) of 20", x.end(19), 19);
        Checks.same("end(20) of 19", x.end(20), -1);
        NightShelter y = fed(25);
        Checks.same("end(501) of 500", y.end(501), -1);
        Checks.same("end(500) of 500", y.end(500), 500);
    }

    private static void endBelowZero() {
        Checks.sentence("NONE if it has not so many, or n is below 0.");
        NightShelter x = fed(1);
        Checks.same("end(-1)", x.end(-1), -1);
        Checks.same("end(-20)", x.end(-20), -1);
        Checks.same("end(MIN)", x.end(Shelters.MIN), -1);
        Checks.same("end(0)", x.end(0), 0);
    }

    private static void refusedEndKeepsAll() {
        Checks.sentence("NONE if it has not so many, or n is below 0.");
        for (int n : new int[] {-1, 21, Shelters.MIN, Shelters.MAX}) {
            NightShelter x = fed(1);
            Checks.same("end(" + n + ")", x.end(n), -1);
            Checks.same("the tape after end(" + n + ")", x.end(20), 20);
        }
    }
}
