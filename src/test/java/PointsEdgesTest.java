/** Promise 13 and the POINTS of the Terms, sentence by sentence at its boundary. */
public final class PointsEdgesTest {
    public static void main(String[] args) {
        zeroWithoutALine();
        lineByLineIfAllTestsHold();
        signsAtTheirNumber();
        measuresAtTheirEnds();
        notTurnsATestRound();
        flags();
        addMoreOrLess();
        barIsNotTaken();
        lastIsNoFurtherLine();
        coldIsOneOrZero();
        dayOfTheWeekWraps();
        hereTheEveningAhead();
        turnedAndNightsAsTheyGrow();
        pointsNow();
        pointsOfOneWhoIsBarred();
        pointsOfNobody();
        pointsIfALineBars();
        Checks.close();
    }

    /** Which of some TESTS hold, as bits: the first is bit 0; at most 13. */
    private static int holding(NightShelter x, int person, boolean cold, String... tests) {
        StringBuilder text = new StringBuilder();
        for (int i = 0; i < tests.length; i++) {
            text.append("when ").append(tests[i]).append(":add ").append(1 << i).append(";");
        }
        Checks.same("LINES of " + text, Checks.take(x, text.toString()), tests.length);
        return x.points(person, cold);
    }

    private static void points(NightShelter x, String text, int due) {
        Checks.take(x, text);
        Checks.same("points by " + text, x.points(0, false), due);
    }

    /** A measure is what it is due to be, for every sign at its number and beside it. */
    private static void measures(NightShelter x, int person, boolean cold, String measure, int due) {
        String call = measure + " of " + person + " is " + due;
        int signs = holding(x, person, cold, measure + "<" + due, measure + "=" + due, measure + ">" + due,
                measure + "<" + (due + 1), measure + "=" + (due + 1), measure + ">" + (due + 1),
                "not " + measure + "<" + due, "not " + measure + "=" + due, "not " + measure + ">" + due);
        Checks.same(call, signs, 0b101_001_010);
        if (due > 0) {
            int below = holding(x, person, cold, measure + "<" + (due - 1), measure + "=" + (due - 1),
                    measure + ">" + (due - 1));
            Checks.same(call + ", beside the number below", below, 0b100);
        }
    }

    private static void zeroWithoutALine() {
        Checks.sentence("POINTS of one who stands at the door: 0; LINE by LINE");
        NightShelter x = Shelters.with(1);
        points(x, "", 0);
        points(x, "when dog:add 5;", 0);
        points(x, "add 0;", 0);
        points(x, "add -0;", 0);
        points(x, "last;", 0);
    }

    private static void lineByLineIfAllTestsHold() {
        Checks.sentence("if all its TESTS hold");
        NightShelter x = Shelters.with(1);
        String[] tests = {"age=20", "kind=1", "climbs", "not dog"};
        for (int wrong = 0; wrong < 16; wrong++) {
            StringBuilder line = new StringBuilder("when ");
            for (int i = 0; i < 4; i++) {
                boolean not = (wrong >> i & 1) != 0;
                String turned = tests[i].startsWith("not ") ? tests[i].substring(4) : "not " + tests[i];
                line.append(i > 0 ? " and " : "").append(not ? turned : tests[i]);
            }
            points(x, line + ":add 3;", wrong == 0 ? 3 : 0);
        }
        points(x, "when dog:add 1;when climbs:add 2;when dog:add 4;when kind=1:add 8;", 10);
        points(x, "when dog:add 1;add 16;", 16);
        String four = "climbs and climbs and climbs and climbs";
        points(x, "when " + four + ":add 1;when dog:add 2;when " + four + ":add 4;", 5);
        points(x, "when dog and " + four.substring(11) + ":add 1;when climbs:add 2;", 2);
    }

    private static void signsAtTheirNumber() {
        Checks.sentence("('<' | '>' | '=') NUMBER");
        NightShelter x = Shelters.with(3);
        measures(x, 0, false, "age", 20);
        measures(x, 1, false, "age", 21);
        Checks.same("age beside 9999", holding(x, 0, false, "age<9999", "age>9999", "age=9999"), 1);
        Checks.same("age beside 0000", holding(x, 0, false, "age<0000", "age>0000", "age=0000"), 2);
    }

    private static void measuresAtTheirEnds() {
        Checks.sentence("AGE, 0 .. 120, KIND 1 or 2");
        NightShelter x = new NightShelter();
        x.person(0, 1, true, true);
        x.person(120, 2, true, true);
        measures(x, 0, false, "age", 0);
        measures(x, 1, false, "age", 120);
        measures(x, 0, false, "kind", 1);
        measures(x, 1, false, "kind", 2);
        for (int ill = 0; ill <= 3; ill++) {
            x.ill(1, ill);
            measures(x, 1, false, "ill", ill);
        }
        measures(x, 0, false, "ill", 0);
    }

    private static void notTurnsATestRound() {
        Checks.sentence("TEST: ['not']");
        NightShelter x = Shelters.with(1);
        int got = holding(x, 0, false, "not age<20", "not age=20", "not age>20", "not dog", "not climbs", "not here");
        Checks.same("not", got, 0b101101);
        points(x, "when not dog and not dog:add 1;", 1);
        points(x, "when not dog and dog:add 1;", 0);
        points(x, "when dog and not dog:add 1;", 0);
    }

    private static void flags() {
        Checks.sentence("'dog' | 'climbs' | 'here')");
        NightShelter x = new NightShelter();
        x.person(30, 1, false, false);
        x.person(30, 1, true, false);
        x.person(30, 1, false, true);
        for (int i = 3; i < 23; i++) {
            x.person(30, 1, false, false);
        }
        x.person(30, 1, true, true);
        int[] due = {0, 2, 1, 3};
        int[] who = {0, 1, 2, 23};
        for (int i = 0; i < 4; i++) {
            Checks.same("flags of " + who[i], holding(x, who[i], false, "dog", "climbs", "here"), due[i]);
        }
    }

    private static void addMoreOrLess() {
        Checks.sentence("add: so many more (or, with -, less)");
        NightShelter x = Shelters.with(1);
        points(x, "add 1;", 1);
        points(x, "add -1;", -1);
        points(x, "add 5;add -5;", 0);
        points(x, "add 9999;".repeat(16), 159984);
        points(x, "add -9999;".repeat(16), -159984);
    }

    private static void barIsNotTaken() {
        Checks.sentence("bar: not taken tonight");
        NightShelter x = Shelters.rooms(Shelters.with(2), 6);
        Checks.take(x, "when age=20:bar;");
        Checks.same("one of two", x.evening(3, false), 1);
        Shelters.told(x, 1, 2, 0);
        Checks.take(x, "add 9;when age=20:bar;last;");
        Checks.same("behind an add", x.evening(3, false), 1);
        Checks.take(x, "when cold=1:bar;");
        Checks.same("tonight", x.evening(3, true), 0);
        Checks.same("not another night", x.evening(3, false), 2);
    }

    private static void lastIsNoFurtherLine() {
        Checks.sentence("last: no further LINE");
        NightShelter x = Shelters.with(1);
        points(x, "add 1;last;add 2;", 1);
        points(x, "last;bar;", 0);
        points(x, "when dog:last;add 2;", 2);
        points(x, "add 1;when climbs:last;add 2;bar;", 1);
        points(x, "add 1;".repeat(15) + "last;", 15);
    }

    private static void coldIsOneOrZero() {
        Checks.sentence("cold: 1 on a COLD night, else 0");
        NightShelter x = Shelters.with(1);
        measures(x, 0, true, "cold", 1);
        measures(x, 0, false, "cold", 0);
        x.evening(1, true);
        measures(x, 0, false, "cold", 0);
    }

    private static void dayOfTheWeekWraps() {
        Checks.sentence("day: of the week, 0 .. 6");
        for (int day = 0; day <= 15; day++) {
            NightShelter x = Shelters.with(1);
            for (int i = 0; i < day; i++) {
                x.evening(0, false);
            }
            measures(x, 0, false, "day", day % 7);
        }
        Checks.sentence("Evenings are numbered from 0 on, the day of the week is that by 7");
        NightShelter y = Shelters.rooms(Shelters.with(1), 1);
        Checks.take(y, "when not day=6:bar;");
        for (int i = 0; i < 15; i++) {
            Checks.same("evening " + i + " by the day", y.evening(1, false), i % 7 == 6 ? 1 : 0);
        }
    }

    private static void hereTheEveningAhead() {
        Checks.sentence("here: whether one slept here the evening ahead of this one");
        NightShelter x = Shelters.rooms(Shelters.with(12), 1);
        here(x, "before any evening", 0);
        x.evening(3, false);
        here(x, "one TAKEN, one turned away", 1);
        Checks.same("an evening that there was not", x.evening(0xfff, false), -1);
        here(x, "it changes nothing", 1);
        x.evening(2, false);
        here(x, "the other was TAKEN", 2);
        x.evening(0, false);
        here(x, "an evening with nobody", 0);
        x.evening(1 << 11, false);
        here(x, "the last of them", 1 << 11);
    }

    private static void here(NightShelter x, String when, int due) {
        Checks.take(x, "when here:add 1;");
        for (int person = 0; person < 12; person++) {
            Checks.same("here, " + when + ": " + person, x.points(person, false), due >> person & 1);
        }
    }

    private static void turnedAndNightsAsTheyGrow() {
        Checks.sentence("Then those TAKEN have one NIGHT more, TURNED 0, and their ROOM");
        NightShelter x = Shelters.rooms(Shelters.with(2), 1);
        x.bar(1, true);
        for (int i = 0; i < 3; i++) {
            measures(x, 0, false, "nights", i);
            measures(x, 0, false, "turned", 0);
            measures(x, 1, false, "nights", 0);
            measures(x, 1, false, "turned", i);
            x.text();
            x.evening(3, false);
        }
    }

    private static void pointsNow() {
        Checks.sentence("POINTS of one of the PEOPLE now, if it was a COLD night or not.");
        NightShelter x = Shelters.with(24);
        Checks.take(x, "when cold=1:add 5;when age=43:add 1;when ill=2:add 100;");
        Checks.same("points(0, true)", x.points(0, true), 5);
        Checks.same("points(0, false)", x.points(0, false), 0);
        Checks.same("points(22, true)", x.points(22, true), 5);
        Checks.same("points(23, true)", x.points(23, true), 6);
        Checks.same("points(23, false)", x.points(23, false), 1);
        x.ill(23, 2);
        Checks.same("now", x.points(23, false), 101);
    }

    private static void pointsOfOneWhoIsBarred() {
        Checks.sentence("-2000000000 if there is none such, or a LINE bars.");
        NightShelter x = Shelters.with(1);
        Checks.take(x, "add 5;");
        x.bar(0, true);
        Checks.same("one who is BARRED, but not by a LINE", x.points(0, false), 5);
    }

    private static void pointsOfNobody() {
        Checks.sentence("-2000000000 if there is none such, or a LINE bars.");
        NightShelter x = Shelters.with(23);
        Checks.take(x, "add 5;");
        Checks.same("points(22)", x.points(22, false), 5);
        for (int person : new int[] {-1, 23, 24, 32, -32, 256, Shelters.MIN, Shelters.MAX}) {
            Checks.same("points(" + person + ", true)", x.points(person, true), Shelters.NOBODY);
            Checks.same("points(" + person + ", false)", x.points(person, false), Shelters.NOBODY);
        }
        x.person(30, 1, true, true);
        Checks.same("points(23), who is there now", x.points(23, false), 5);
        Checks.same("points(24)", x.points(24, false), Shelters.NOBODY);
    }

    private static void pointsIfALineBars() {
        Checks.sentence("-2000000000 if there is none such, or a LINE bars.");
        NightShelter x = Shelters.with(1);
        points(x, "bar;", Shelters.NOBODY);
        points(x, "add 9999;bar;", Shelters.NOBODY);
        points(x, "bar;add 9999;", Shelters.NOBODY);
        points(x, "add 1;".repeat(15) + "bar;", Shelters.NOBODY);
        points(x, "when dog:bar;add 1;", 1);
        points(x, "last;bar;", 0);
        Checks.take(x, "when cold=1:bar;");
        Checks.same("on a COLD night", x.points(0, true), Shelters.NOBODY);
        Checks.same("on another", x.points(0, false), 0);
    }
}
