/** Promises 1 to 5 and 13: the tape, the TEXT, its FAULTS and POINTS. */
public final class TextTest {
    public static void main(String[] args) {
        newObject();
        feeding();
        ending();
        goodTexts();
        faultsOfForm();
        tooMany();
        faultKeepsTheText();
        pointsOfTests();
        pointsOfActs();
        pointsOfNobody();
        Checks.close();
    }

    private static void newObject() {
        NightShelter x = new NightShelter();
        for (int what = 0; what <= 7; what++) {
            Checks.same("new: count(" + what + ")", x.count(what), 0);
        }
        Checks.same("new: fault(0)", x.fault(0), 0);
        Checks.same("new: fault(1)", x.fault(1), -1);
        Checks.same("new: end(1)", x.end(1), -1);
        Checks.same("new: end(0)", x.end(0), 0);
        Checks.same("new: again(0)", x.again(0), false);
        Checks.same("new: again(2)", x.again(2), false);
        Checks.same("new: told(0, 0)", x.told(0, 0), -1);
        Checks.same("new: called(0)", x.called(0), false);
        Checks.same("new: tell(0, 0)", x.tell(0, 0), -1);
        Checks.same("new: duty(0, 0)", x.duty(0, 0), -1);
        Checks.same("new: book(0, 0)", x.book(0, 0), -1);
        Checks.same("NONE", NightShelter.NONE, -1);
        x.person(30, 1, true, false);
        Checks.same("new: points without TEXT", x.points(0, false), 0);
        Checks.same("new: told without evening", x.told(0, 1), -1);
    }

    private static void feeding() {
        NightShelter x = new NightShelter();
        for (int i = 1; i <= 25; i++) {
            Checks.same("feed " + i, x.feed(0x62617220, 0x20202020, 0x20202020, 0x20202020, 0x20202020), 20 * i);
        }
        Checks.same("feed 26", x.feed(0, 0, 0, 0, 0), -1);
        Checks.same("nothing came", x.end(500), 500);
        Checks.same("end(481)", x.end(481), 481);
        Checks.same("feed to 501", x.feed(0, 0, 0, 0, 0), -1);
        Checks.same("end(480)", x.end(480), 480);
        Checks.same("feed to 500", x.feed(0, 0, 0, 0, 0), 500);

        NightShelter y = new NightShelter();
        y.feed(('l' << 24) | ('a' << 16) | ('s' << 8) | 't', (';' << 24) | 0x202020, 0x0a0a0a0a, 0x20202020, 0x20202020);
        Checks.same("highest byte first", y.text(), 1);
        y.feed(0x20202020, 0x20202020, 0x20202020, 0x20202020, 0x202020ff);
        Checks.same("a byte above 127", y.text(), -1);
        Checks.same("its place", y.fault(1), 19);
    }

    private static void ending() {
        NightShelter x = new NightShelter();
        x.feed(0, 0, 0, 0, 0);
        Checks.same("end(21)", x.end(21), -1);
        Checks.same("end(-1)", x.end(-1), -1);
        Checks.same("end(MIN)", x.end(Integer.MIN_VALUE), -1);
        Checks.same("end(20)", x.end(20), 20);
        Checks.same("end(7)", x.end(7), 7);
        Checks.same("end(8)", x.end(8), -1);
        Checks.same("feed behind 7", x.feed(0, 0, 0, 0, 0), 27);
    }

    private static void goodTexts() {
        good("", 0);
        good("  \n ", 0);
        good("bar;", 1);
        good("add 5;", 1);
        good("add5;add-5;add - 5 ;", 3);
        good("add 0000;add 9999;", 2);
        good("when not age<18and kind=1:last;", 1);
        good("when age<1 and kind>1 and ill=1 and nights<2:bar;", 1);
        good("when turned>3 and cold=1 and day=6 and dog:add 1;", 1);
        good("when climbs\nand\nnot here : add - 12 ; last ;", 2);
        good("bar;".repeat(16), 16);
        good("when dog and dog and dog and not dog:bar;", 1);
    }

    private static void good(String text, int lines) {
        NightShelter x = new NightShelter();
        Checks.same("text " + text, Checks.take(x, text), lines);
        Checks.same("fault(0) of " + text, x.fault(0), 0);
        Checks.same("fault(1) of " + text, x.fault(1), -1);
        Checks.same("LINES of " + text, x.count(5), lines);
        Checks.same("the tape after " + text, x.end(1), -1);
    }

    private static void faultsOfForm() {
        bad("add", 1, 3);
        bad("add  ", 1, 5);
        bad("bar;add\n", 1, 8);
        bad("when dog add 1;", 1, 9);
        bad("when age:bar;", 1, 8);
        bad("when not not dog:bar;", 1, 9);
        bad("add - 5", 1, 7);
        bad("add 12345;", 1, 4);
        bad("add 00001;", 1, 4);
        bad("bar last;", 1, 4);
        bad("ban;", 1, 0);
        bad("wh", 1, 0);
        bad("barbar;", 1, 0);
        bad("ba", 1, 0);
        bad("ba r;", 1, 0);
        bad(" Bar;", 1, 1);
        bad("b;", 1, 0);
        bad("bar;;", 1, 4);
        bad("bar;5", 1, 4);
        bad("when:bar;", 1, 4);
        bad("when dog and:bar;", 1, 12);
        bad("when dog:", 1, 9);
        bad("when dog:when dog:bar;", 1, 9);
        bad("when age<-5:bar;", 1, 9);
        bad("when age<:bar;", 1, 9);
        bad("when age<=5:bar;", 1, 9);
        bad("when age dog:bar;", 1, 9);
        bad("when dog=1:bar;", 1, 8);
        bad("when age=1 or dog:bar;", 1, 11);
        bad("add --5;", 1, 5);
        bad("add;", 1, 3);
        bad("add 5 5;", 1, 6);
        bad("not dog:bar;", 1, 0);
        bad("bar\t;", 1, 3);
        bad("bar\r\n;", 1, 3);
        bad("bar#;", 1, 3);
        bad("bar;\0", 1, 4);
        bad("bar \u00e4;", 1, 4);
        bad("\u00e2ar;", 1, 0);
        bad("bar\u00a0;", 1, 3);
        bad("last;12345", 1, 5);
    }

    private static void tooMany() {
        bad("bar;".repeat(17), 3, 64);
        bad("bar;".repeat(16) + " when dog:last;last;", 3, 65);
        bad("when dog and dog and dog and dog and dog:bar;", 3, 37);
        bad("when dog and dog and dog and dog and not age=1 and here:bar;", 3, 37);
        bad("bar;".repeat(16) + "when dog and dog and dog and dog and dog:bar;", 3, 64);
        bad("when dog and dog and dog and dog and dog:bar;" + "bar;".repeat(16), 3, 37);
        bad("bar;".repeat(17) + "ba", 1, 68);
        bad("when dog and dog and dog and dog and dog:bar", 1, 44);
        bad("bar;".repeat(125), 3, 64);
    }

    private static void bad(String text, int fault, int place) {
        NightShelter x = new NightShelter();
        Checks.same("text " + text, Checks.take(x, text), -1);
        Checks.same("fault(0) of " + text, x.fault(0), fault);
        Checks.same("fault(1) of " + text, x.fault(1), place);
        Checks.same("fault(2) of " + text, x.fault(2), -1);
        Checks.same("fault(-1) of " + text, x.fault(-1), -1);
        Checks.same("the tape after " + text, x.end(1), -1);
    }

    private static void faultKeepsTheText() {
        NightShelter x = new NightShelter();
        x.person(30, 1, true, false);
        Checks.take(x, "add 7;add 1;");
        Checks.take(x, "add 9;add");
        Checks.same("fault", x.fault(0), 1);
        Checks.same("LINES after a FAULT", x.count(5), 2);
        Checks.same("points after a FAULT", x.points(0, false), 8);
        Checks.take(x, "add 2;");
        Checks.same("fault is of the latest", x.fault(0), 0);
        Checks.same("place is of the latest", x.fault(1), -1);
        Checks.same("the new TEXT", x.points(0, false), 2);
        x.text();
        Checks.same("an empty TEXT", x.points(0, false), 0);
    }

    private static void pointsOfTests() {
        NightShelter x = new NightShelter();
        x.room(1, 0, false, true, 0);
        x.person(40, 2, true, false);
        x.person(8, 1, false, true);
        x.ill(1, 3);
        Checks.take(x, "add 1;");
        x.evening(3, false);
        x.evening(3, false);
        Checks.same("TAKEN twice", x.tell(1, 3) + x.tell(0, 3), 2);
        holds(x, "age=40", 0, true);
        holds(x, "age<40", 0, false);
        holds(x, "age<41", 0, true);
        holds(x, "age>40", 0, false);
        holds(x, "age>39", 0, true);
        holds(x, "not age>39", 0, false);
        holds(x, "not age=39", 0, true);
        holds(x, "kind=2", 0, true);
        holds(x, "kind=2", 1, false);
        holds(x, "ill=3", 1, true);
        holds(x, "ill=0", 0, true);
        holds(x, "nights=1", 0, true);
        holds(x, "nights=1", 1, true);
        holds(x, "turned=1", 0, true);
        holds(x, "turned=0", 1, true);
        holds(x, "day=2", 0, true);
        holds(x, "day<2", 0, false);
        holds(x, "cold=0", 0, true);
        holds(x, "cold=1", 0, false);
        holds(x, "dog", 1, true);
        holds(x, "dog", 0, false);
        holds(x, "not dog", 0, true);
        holds(x, "climbs", 0, true);
        holds(x, "climbs", 1, false);
        holds(x, "here", 0, false);
        holds(x, "here", 1, true);
        holds(x, "not here", 0, true);
        holds(x, "age=40 and kind=2", 0, true);
        holds(x, "age=40 and kind=1", 0, false);
        holds(x, "age=41 and kind=2", 0, false);
        holds(x, "age=40 and kind=2 and climbs and not turned=1", 0, false);
        holds(x, "age=40 and kind=2 and climbs and not turned=0", 0, true);
        Checks.take(x, "when cold=1:add 4;");
        Checks.same("a COLD night", x.points(0, true), 4);
        Checks.same("no COLD night", x.points(0, false), 0);
    }

    private static void holds(NightShelter x, String tests, int person, boolean due) {
        Checks.take(x, "when " + tests + ":add 3;");
        Checks.same(tests + " of " + person, x.points(person, false), due ? 3 : 0);
    }

    private static void pointsOfActs() {
        NightShelter x = new NightShelter();
        x.person(40, 2, true, false);
        points(x, "add 5;add -7;add 1;", -1);
        points(x, "add 5;last;add 1;", 5);
        points(x, "add 5;when dog:last;add 1;", 6);
        points(x, "bar;add 5;", -2000000000);
        points(x, "add 5;bar;last;", -2000000000);
        points(x, "add 5;last;bar;", 5);
        points(x, "when dog:bar;add 2;", 2);
        points(x, "add 9999;".repeat(16), 159984);
        points(x, "add -9999;".repeat(16), -159984);
        x.bar(0, true);
        points(x, "add 5;", 5);
    }

    private static void points(NightShelter x, String text, int due) {
        Checks.take(x, text);
        Checks.same("points by " + text, x.points(0, false), due);
    }

    private static void pointsOfNobody() {
        NightShelter x = new NightShelter();
        Checks.same("points(0)", x.points(0, false), -2000000000);
        x.person(1, 1, true, true);
        Checks.same("points(1)", x.points(1, true), -2000000000);
        Checks.same("points(-1)", x.points(-1, true), -2000000000);
        Checks.same("points(MIN)", x.points(Integer.MIN_VALUE, true), -2000000000);
    }
}
