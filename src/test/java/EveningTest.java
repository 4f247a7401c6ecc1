/** Promises 12, 14, 15, 17 and 18: evenings, and what is told of them. */
public final class EveningTest {
    public static void main(String[] args) {
        order();
        whoCountsAtTheDoor();
        atMostTenAtTheDoor();
        atMostFourHundred();
        whyInItsOrder();
        parties();
        partiesThatNoRoomTakes();
        whatRoomsAreFor();
        illsAreKeptApart();
        apartAreKeptApart();
        matsOnColdNights();
        ownRoomFirst();
        leastNumbersFirst();
        earlierOnesMakeWay();
        helpersByTurns();
        helpersOfAWeek();
        oneMoreHelperForNine();
        turnedAndNights();
        bookOfEvenings();
        toldOfNobody();
        Checks.close();
    }

    private static void order() {
        NightShelter x = Shelters.with(4);
        x.room(2, 0, false, false, 0);
        Checks.same("two of four", x.evening(15, false), 2);
        Shelters.told(x, 2, 0, 1, 2, 3);
        Shelters.told(x, 1, 0, 0, 5, 5);
        Shelters.told(x, 0, 0, 0, -1, -1);
        Checks.same("the others next", x.evening(15, false), 2);
        Shelters.told(x, 2, 2, 3, 0, 1);
        Shelters.told(x, 0, -1, -1, 0, 0);
        Checks.take(x, "when age>22:add 2;when age=22:add 1;when age=21:add -1;");
        x.evening(15, false);
        Shelters.told(x, 2, 2, 3, 1, 0);
        x.bar(3, true);
        x.evening(15, false);
        Shelters.told(x, 2, 1, 2, 0, -1);
        x.evening(6, false);
        Shelters.told(x, 2, -1, 1, 0, -1);
    }

    private static void whoCountsAtTheDoor() {
        NightShelter x = Shelters.with(3);
        x.room(6, 0, false, false, 0);
        Checks.same("all bits", x.evening(-1, false), 3);
        Checks.same("who stood there", x.book(0, 0), 7);
        Checks.same("only those who are none", x.evening(~7, false), 0);
        Checks.same("nobody stood there", x.book(1, 0), 0);
        Checks.same("two evenings", x.count(4), 2);
        Shelters.told(x, 1, -1, -1, -1);
    }

    private static void atMostTenAtTheDoor() {
        NightShelter x = Shelters.with(24);
        x.room(6, 0, false, false, 0);
        x.room(6, 0, false, false, 0);
        Checks.same("eleven", x.evening(0x7ff, false), -1);
        Checks.same("all", x.evening(-1, false), -1);
        Checks.same("no evening", x.count(4), 0);
        Checks.same("no TURNED", x.tell(0, 4), 0);
        Checks.same("ten", x.evening(0x3ff, false), 10);
        Checks.same("ten others", x.evening(0xffc000, false), 10);
        Checks.same("eight bits that are none", x.evening(0xff0003ff, false), 10);
    }

    private static void atMostFourHundred() {
        NightShelter x = Shelters.with(1);
        x.room(1, 0, false, false, 0);
        for (int i = 0; i < 400; i++) {
            Checks.same("evening " + i, x.evening(1, false), 1);
        }
        Checks.same("evening 400", x.evening(1, false), -1);
        Checks.same("evenings that were", x.count(4), 400);
        Checks.same("NIGHTS", x.tell(0, 3), 400);
        Checks.same("book(399, 1)", x.book(399, 1), 1);
        Checks.same("book(0, 1)", x.book(0, 1), 1);
        Checks.same("book(400, 1)", x.book(400, 1), -1);
        Checks.take(x, "when day=1:add 5;");
        Checks.same("day of evening 400", x.points(0, false), 5);
    }

    private static void whyInItsOrder() {
        NightShelter x = Shelters.with(8);
        x.room(1, 0, false, false, 0);
        Checks.take(x, "when age<22:bar;when age=27:add 9;");
        x.bar(0, true);
        x.pair(2, 0, 1);
        x.pair(3, 1, 1);
        x.pair(4, 5, 1);
        x.evening(0xff, false);
        Shelters.told(x, 1, 1, 2, 3, 3, 4, 4, 5, 0);
        Shelters.told(x, 2, -1, -1, 1, 2, 3, 4, 5, 0);
        Shelters.told(x, 0, -1, -1, -1, -1, -1, -1, -1, 0);
    }

    private static void parties() {
        NightShelter x = Shelters.with(6);
        x.room(3, 0, false, false, 0);
        x.room(2, 0, false, false, 0);
        x.pair(0, 5, 1);
        x.pair(3, 5, 1);
        Checks.same("one of the PARTY is away", x.evening(0b001001, false), 0);
        Shelters.told(x, 1, 3, -1, -1, 3, -1, -1);
        Checks.same("the whole PARTY", x.evening(0b101001, false), 3);
        Shelters.told(x, 0, 0, -1, -1, 0, -1, 0);
        Checks.same("PARTY with others", x.evening(0b111111, false), 5);
        Shelters.told(x, 0, 0, 1, 1, 0, -1, 0);
        Shelters.told(x, 1, 0, 0, 0, 0, 5, 0);
        Checks.take(x, "when age=25:add 1;when age=21:add 2;when age=22:add 2;when age=24:add 2;");
        Checks.same("PARTY behind others", x.evening(0b111111, false), 3);
        Shelters.told(x, 2, 4, 1, 2, 5, 0, 3);
        Shelters.told(x, 1, 5, 0, 0, 5, 0, 5);
    }

    private static void partiesThatNoRoomTakes() {
        NightShelter x = Shelters.with(4);
        x.evening(1, false);
        Checks.same("no ROOM at all", x.told(0, 1), 4);
        x.room(2, 1, false, false, 0);
        x.pair(0, 1, 1);
        x.pair(1, 2, 1);
        x.evening(15, false);
        Shelters.told(x, 1, 4, 4, 4, 0);
        x.evening(7, true);
        Shelters.told(x, 1, 0, 0, 0, -1);
        x.pair(0, 2, 0);
        x.evening(7, true);
        Shelters.told(x, 1, 4, 4, 4, -1);
        x.pair(0, 2, 2);
        x.ill(1, 2);
        x.evening(7, true);
        Shelters.told(x, 1, 4, 4, 4, -1);
        x.ill(0, 2);
        x.ill(2, 2);
        x.evening(7, true);
        Shelters.told(x, 1, 0, 0, 0, -1);
    }

    private static void whatRoomsAreFor() {
        NightShelter x = new NightShelter();
        x.person(30, 1, false, false);
        x.person(30, 1, true, true);
        x.person(30, 2, true, false);
        x.person(30, 1, true, false);
        x.room(6, 0, true, false, 1);
        x.evening(15, false);
        Shelters.told(x, 1, 4, 4, 4, 0);
        x.room(6, 0, false, false, 2);
        x.evening(15, false);
        Shelters.told(x, 0, -1, -1, 1, 0);
        x.room(6, 0, true, true, 0);
        x.evening(15, false);
        Shelters.told(x, 0, -1, 2, 1, 0);
        x.room(6, 0, false, false, 1);
        x.evening(15, false);
        Shelters.told(x, 0, 3, 2, 1, 0);
    }

    private static void illsAreKeptApart() {
        NightShelter x = Shelters.with(5);
        for (int i = 0; i < 3; i++) {
            x.room(6, 0, false, false, 0);
        }
        x.ill(1, 1);
        x.ill(2, 2);
        x.ill(3, 3);
        x.ill(4, 1);
        Checks.same("three ILLS", x.evening(31, false), 4);
        Shelters.told(x, 0, 0, 1, 2, -1, 1);
        Shelters.told(x, 1, 0, 0, 0, 5, 0);
    }

    private static void apartAreKeptApart() {
        NightShelter x = Shelters.with(4);
        x.room(6, 0, false, false, 0);
        x.room(6, 0, false, false, 0);
        x.pair(0, 1, 0);
        x.pair(2, 1, 0);
        x.pair(2, 0, 0);
        Checks.same("a triangle in two ROOMS", x.evening(15, false), 3);
        Shelters.told(x, 0, 0, 1, -1, 0);
        Shelters.told(x, 1, 0, 0, 5, 0);
        x.pair(0, 2, 2);
        Checks.same("a row in two ROOMS", x.evening(15, false), 4);
        Shelters.told(x, 0, 0, 1, 0, 0);
    }

    private static void matsOnColdNights() {
        NightShelter x = Shelters.with(8);
        x.room(2, 3, false, false, 0);
        x.room(1, 0, false, false, 0);
        Checks.same("no COLD night", x.evening(0xff, false), 3);
        Checks.same("a COLD night", x.evening(0xff, true), 6);
        Checks.same("COLD in the book", x.book(1, 4), 1);
        Checks.same("not COLD in the book", x.book(0, 4), 0);
        Checks.take(x, "when cold=1 and age>23:bar;");
        Checks.same("a LINE for COLD nights", x.evening(0xff, true), 4);
    }

    private static void ownRoomFirst() {
        NightShelter x = Shelters.with(3);
        x.room(1, 0, false, false, 0);
        x.room(2, 0, false, false, 0);
        x.evening(1, false);
        Checks.same("from 0 on", x.told(0, 0), 0);
        x.evening(6, false);
        Shelters.told(x, 0, -1, 0, 1);
        x.evening(1, false);
        x.evening(4, false);
        Checks.same("its own ROOM of last time", x.told(2, 0), 1);
        x.evening(3, false);
        Shelters.told(x, 0, 0, 1, -1);
        x.evening(2, false);
        Checks.same("the ROOM it slept in last", x.told(1, 0), 1);
        Checks.same("tell its ROOM", x.tell(1, 5), 1);
    }

    private static void leastNumbersFirst() {
        NightShelter x = Shelters.with(3);
        x.room(1, 0, false, false, 0);
        x.room(6, 0, false, false, 0);
        Checks.take(x, "when age=22:add 5;");
        x.evening(7, false);
        Shelters.told(x, 2, 1, 2, 0);
        Shelters.told(x, 0, 0, 1, 1);
        x.pair(2, 0, 1);
        x.evening(7, false);
        Shelters.told(x, 0, 1, 1, 1);
    }

    /** One who came first goes elsewhere so that a later one can be TAKEN, too. */
    private static void earlierOnesMakeWay() {
        NightShelter x = new NightShelter();
        x.person(30, 1, true, false);
        x.person(30, 1, true, false);
        x.person(30, 1, false, false);
        x.room(1, 0, false, false, 0);
        x.room(2, 0, true, false, 0);
        x.evening(1, false);
        Checks.same("alone in ROOM 0", x.told(0, 0), 0);
        Checks.same("all three", x.evening(7, false), 3);
        Shelters.told(x, 0, 1, 1, 0);
        Checks.same("ROOM 0 for the one who can't climb", x.book(1, 10), 4);
    }

    private static void helpersByTurns() {
        NightShelter x = Shelters.with(2);
        x.room(1, 0, false, false, 0);
        x.room(1, 0, false, false, 0);
        x.helper(127, 7);
        x.helper(127, 7);
        x.helper(0b0000010, 7);
        x.evening(1, false);
        Shelters.called(x, true, false, false);
        Checks.same("none is wanting", x.book(0, 3), 0);
        x.evening(3, false);
        Shelters.called(x, false, true, true);
        x.evening(3, false);
        Shelters.called(x, true, true, false);
        x.evening(0, false);
        Shelters.called(x, false, false, false);
        Checks.same("nights of 0", x.duty(0, 0), 2);
        Checks.same("nights of 1", x.duty(1, 0), 2);
        Checks.same("nights of 2", x.duty(2, 0), 1);
        x.helper(127, 1);
        Checks.same("a new one was not called", x.called(3), false);
        x.evening(3, false);
        Shelters.called(x, true, false, false, true);
    }

    private static void helpersOfAWeek() {
        NightShelter x = Shelters.with(1);
        x.room(1, 0, false, false, 0);
        x.helper(127, 2);
        int[] left = {1, 0, 0, 0, 0, 0, 2, 1, 0};
        for (int i = 0; i < left.length; i++) {
            x.evening(1, false);
            boolean comes = i < 2 || i > 6;
            Checks.same("called on evening " + i, x.called(0), comes);
            Checks.same("wanting on evening " + i, x.book(i, 3), comes ? 0 : 1);
            Checks.same("left after evening " + i, x.duty(0, 1), left[i]);
        }
        Checks.same("nights in all", x.duty(0, 0), 4);
    }

    private static void oneMoreHelperForNine() {
        NightShelter x = Shelters.with(10);
        x.room(6, 0, false, false, 0);
        x.room(6, 0, false, false, 0);
        for (int i = 0; i < 8; i++) {
            x.helper(127, 7);
        }
        Checks.same("eight", x.evening(0xff, false), 8);
        Checks.same("two ROOMS, two HELPERS", x.book(0, 2), 3);
        Checks.same("nine", x.evening(0x1ff, false), 9);
        Checks.same("one more", x.book(1, 2), 0b11100);

        NightShelter y = Shelters.with(10);
        y.room(6, 0, false, false, 0);
        y.room(6, 0, false, false, 0);
        y.helper(127, 7);
        y.evening(0x3ff, false);
        Checks.same("all of them come", y.book(0, 2), 1);
        Checks.same("two are wanting", y.book(0, 3), 2);
    }

    private static void turnedAndNights() {
        NightShelter x = Shelters.with(3);
        x.room(1, 0, false, false, 0);
        x.bar(2, true);
        x.evening(7, false);
        x.evening(4, false);
        Checks.same("TAKEN: NIGHTS", x.tell(0, 3), 1);
        Checks.same("TAKEN: TURNED", x.tell(0, 4), 0);
        Checks.same("turned away: NIGHTS", x.tell(1, 3), 0);
        Checks.same("turned away, then not at the door: TURNED", x.tell(1, 4), 1);
        Checks.same("turned away: ROOM", x.tell(1, 5), -1);
        Checks.same("BARRED: TURNED", x.tell(2, 4), 2);
        x.evening(2, false);
        Checks.same("TAKEN then: TURNED", x.tell(1, 4), 0);
        Checks.same("TAKEN then: ROOM", x.tell(1, 5), 0);
    }

    private static void bookOfEvenings() {
        NightShelter x = Shelters.with(4);
        x.room(2, 0, false, false, 0);
        x.helper(127, 7);
        x.evening(7, false);
        x.room(2, 0, false, false, 0);
        x.evening(15, true);
        int[] first = {7, 3, 1, 0, 0};
        int[] second = {15, 15, 1, 1, 1};
        for (int what = 0; what < 5; what++) {
            Checks.same("book(0, " + what + ")", x.book(0, what), first[what]);
            Checks.same("book(1, " + what + ")", x.book(1, what), second[what]);
        }
        Checks.same("ROOM 0 first", x.book(0, 10), 3);
        Checks.same("ROOM 1 was not there then", x.book(0, 11), -1);
        Checks.same("ROOM 0 then", x.book(1, 10), 3);
        Checks.same("ROOM 1 then", x.book(1, 11), 12);
        for (int what : new int[] {-1, 5, 9, 12, 13, 14, Integer.MIN_VALUE, Integer.MAX_VALUE}) {
            Checks.same("book(1, " + what + ")", x.book(1, what), -1);
        }
        for (int evening : new int[] {-1, 2, Integer.MIN_VALUE, Integer.MAX_VALUE}) {
            Checks.same("book(" + evening + ", 0)", x.book(evening, 0), -1);
        }
    }

    private static void toldOfNobody() {
        NightShelter x = Shelters.with(1);
        x.room(1, 0, false, false, 0);
        Shelters.told(x, 0, -1);
        Shelters.told(x, 1, -1);
        Shelters.told(x, 2, -1);
        x.evening(1, false);
        x.person(30, 1, true, true);
        Shelters.told(x, 0, 0, -1);
        Shelters.told(x, 1, 0, -1);
        Shelters.told(x, 2, 0, -1);
        for (int what : new int[] {-1, 3, Integer.MIN_VALUE, Integer.MAX_VALUE}) {
            Checks.same("told(0, " + what + ")", x.told(0, what), -1);
        }
        for (int person : new int[] {-1, 2, 24, Integer.MIN_VALUE, Integer.MAX_VALUE}) {
            Checks.same("told(" + person + ", 1)", x.told(person, 1), -1);
        }
    }
}
