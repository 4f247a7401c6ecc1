/** Promise 12 and AN EVENING of the Terms, sentence by sentence at its boundary. */
public final class EveningEdgesTest {
    public static void main(String[] args) {
        tenAtTheDoor();
        thoseWhoAreNone();
        nobodyAtTheDoor();
        fourHundredEvenings();
        refusedEveningIsNone();
        pointsTheMostFirst();
        turnedTheMostFirst();
        thenByNumbers();
        whoIsNotInTheOrder();
        oneAloneIsAParty();
        allWhoHangTogether();
        partyByTheFirstOfIt();
        takenIfAllAreInTheOrder();
        takenIfThereIsAPlacing();
        notMoreThanItHolds();
        noTwoWhoAreApart();
        aPartyInOne();
        allOfOneIll();
        stairs();
        dogs();
        kinds();
        ownRoomAheadOfAll();
        thenFromZeroOn();
        withWhichTheOthersCanBePlaced();
        leastNumberFirst();
        Checks.close();
    }

    private static int evening(NightShelter x, int people) {
        return x.evening(Shelters.all(people), false);
    }

    private static void tenAtTheDoor() {
        Checks.sentence("NONE, and there was none: more than 10 stand there, or 400 evenings were.");
        NightShelter x = Shelters.rooms(Shelters.with(24), 6, 6);
        Checks.same("nine", evening(x, 9), 9);
        Checks.same("ten", evening(x, 10), 10);
        Checks.same("eleven", evening(x, 11), -1);
        Checks.same("twelve", evening(x, 12), -1);
        Checks.same("all 24", evening(x, 24), -1);
        Checks.same("ten, the last among them", x.evening(0xffc000, false), 10);
        Checks.same("eleven, the last among them", x.evening(0xffe000, false), -1);
        Checks.same("eleven with BARRED ones", barredAmong(x, 11), -1);
    }

    private static int barredAmong(NightShelter x, int people) {
        x.bar(0, true);
        x.bar(1, true);
        return evening(x, people);
    }

    private static void thoseWhoAreNone() {
        Checks.sentence("An EVENING with these at the door (bits; those who are none count for nothing): how many were "
                + "TAKEN.");
        NightShelter x = Shelters.rooms(Shelters.with(23), 6, 6);
        Checks.same("ten and all that are none", x.evening(0xff8003ff, false), 10);
        Checks.same("who stood there", x.book(0, 0), 0x3ff);
        Checks.same("the one who is none", x.evening(1 << 23, false), 0);
        Checks.same("nobody stood there", x.book(1, 0), 0);
        Checks.same("the last who is one", x.evening(1 << 22, false), 1);
        Checks.same("bit 31", x.evening(Shelters.MIN, false), 0);
        Checks.same("bit 24", x.evening(1 << 24, false), 0);
        x.person(30, 1, true, false);
        Checks.same("who has come since", x.evening(1 << 23, false), 1);
        Checks.same("in a shelter without PEOPLE", new NightShelter().evening(-1, true), 0);
    }

    private static void nobodyAtTheDoor() {
        Checks.sentence("An EVENING with these at the door (bits; those who are none count for nothing): how many were "
                + "TAKEN.");
        NightShelter x = Shelters.rooms(Shelters.with(2), 6);
        x.helper(127, 7);
        Checks.same("nobody", x.evening(0, true), 0);
        Checks.same("it was an evening", x.count(4), 1);
        Checks.same("nobody was TAKEN", x.book(0, 1), 0);
        Checks.same("nobody was called", x.book(0, 2), 0);
        Checks.same("none was wanting", x.book(0, 3), 0);
        Checks.same("it was COLD", x.book(0, 4), 1);
        Checks.same("ROOM 0 was empty", x.book(0, 10), 0);
        Shelters.tell(x, 4, 0, 0);
    }

    private static void fourHundredEvenings() {
        Checks.sentence("NONE, and there was none: more than 10 stand there, or 400 evenings were.");
        NightShelter x = Shelters.rooms(Shelters.with(1), 1);
        for (int i = 0; i < 399; i++) {
            x.evening(1, false);
        }
        x.image(0);
        Checks.same("evenings", x.count(4), 399);
        Checks.same("the 400th", x.evening(1, true), 1);
        Checks.same("the 401st", x.evening(1, false), -1);
        Checks.same("the 401st with nobody", x.evening(0, false), -1);
        Checks.same("evenings", x.count(4), 400);
        Checks.same("NIGHTS", x.tell(0, 3), 400);
        Checks.same("book(399, 4)", x.book(399, 4), 1);
        Checks.same("book(398, 4)", x.book(398, 4), 0);
        Checks.same("book(400, 4)", x.book(400, 4), -1);
        Checks.same("back to 399", x.again(0), true);
        Checks.same("book(399, 4) of none", x.book(399, 4), -1);
        Checks.same("the 400th again", x.evening(1, false), 1);
        Checks.same("the 401st again", x.evening(1, false), -1);
    }

    private static void refusedEveningIsNone() {
        Checks.sentence("NONE, and there was none");
        NightShelter x = Shelters.rooms(Shelters.with(11), 1);
        x.helper(127, 7);
        x.evening(3, true);
        Checks.same("eleven", x.evening(0x7ff, false), -1);
        Checks.same("one evening", x.count(4), 1);
        Shelters.told(x, 0, 0, -1, -1);
        Shelters.told(x, 1, 0, 5, -1);
        Shelters.told(x, 2, 0, 1, -1);
        Shelters.tell(x, 3, 1, 0, 0);
        Shelters.tell(x, 4, 0, 1, 0);
        Shelters.called(x, true);
        Checks.same("nights of the HELPER", x.duty(0, 0), 1);
        Checks.same("nights left", x.duty(0, 1), 6);
        Checks.same("book(1, 0)", x.book(1, 0), -1);
    }

    private static void pointsTheMostFirst() {
        Checks.sentence("THE ORDER: by POINTS, the most first");
        NightShelter x = Shelters.rooms(Shelters.with(5), 2);
        x.evening(0b11111, false);
        x.evening(0b10100, false);
        Shelters.tell(x, 4, 0, 0, 0, 1, 0);
        Checks.take(x, "when age=20:add -1;when age=21:add 1;when age=22:add 9999;when age=23:add -9999;");
        evening(x, 5);
        Shelters.told(x, 2, 3, 1, 0, 4, 2);
        Shelters.told(x, 1, 5, 0, 0, 5, 5);
    }

    private static void turnedTheMostFirst() {
        Checks.sentence("alike: by TURNED, the most first");
        NightShelter x = Shelters.with(4);
        evening(x, 4);
        x.evening(0b1100, false);
        x.evening(0b1000, false);
        Shelters.tell(x, 4, 1, 1, 2, 3);
        evening(x, 4);
        Shelters.told(x, 2, 2, 3, 1, 0);
        Checks.take(x, "when age=20:add 1;");
        evening(x, 4);
        Shelters.told(x, 2, 0, 3, 2, 1);
    }

    private static void thenByNumbers() {
        Checks.sentence("then by numbers");
        NightShelter x = Shelters.rooms(Shelters.with(24), 6);
        x.evening(0xffc000, false);
        for (int i = 0; i < 10; i++) {
            Checks.same("place of " + (14 + i), x.told(14 + i, 2), i);
            Checks.same("ROOM of " + (14 + i), x.told(14 + i, 0), i < 6 ? 0 : -1);
        }
    }

    private static void whoIsNotInTheOrder() {
        Checks.sentence("one who is BARRED, or whom a LINE bars, is not in it");
        NightShelter x = Shelters.rooms(Shelters.with(5), 6);
        x.bar(0, true);
        Checks.take(x, "when age=22:bar;");
        Checks.same("two of four", x.evening(0b1111, false), 2);
        Shelters.told(x, 2, -1, 0, -1, 1, -1);
        Shelters.told(x, 0, -1, 0, -1, 0, -1);
        x.bar(0, false);
        x.text();
        Checks.same("all four", x.evening(0b1111, false), 4);
        Shelters.told(x, 2, 0, 2, 1, 3, -1);
    }

    private static void oneAloneIsAParty() {
        Checks.sentence("A PARTY are all who hang together by PAIRS TOGETHER (one alone is one, too).");
        NightShelter x = Shelters.rooms(Shelters.with(2), 1);
        x.pair(0, 1, 0);
        Checks.same("one alone", x.evening(1, false), 1);
        Checks.same("the other alone", x.evening(2, false), 1);
    }

    private static void allWhoHangTogether() {
        Checks.sentence("A PARTY are all who hang together by PAIRS TOGETHER (one alone is one, too).");
        int[] chain = {5, 9, 0, 7, 2, 8, 1, 6, 3};
        NightShelter x = Shelters.with(11);
        x.room(6, 2, false, false, 0);
        x.room(6, 3, false, false, 0);
        for (int i = 1; i < chain.length; i++) {
            x.pair(chain[i - 1], chain[i], 1);
        }
        int party = 0b1111101111;
        Checks.same("nine on a COLD night", x.evening(party, true), 9);
        Checks.same("all in ROOM 1", x.book(0, 11), party);
        Checks.same("nine on another night", x.evening(party, false), 0);
        Checks.same("no ROOM would take them", x.told(0, 1), 4);
        for (int away : chain) {
            Checks.same("without " + away, x.evening(party & ~(1 << away), true), 0);
            Checks.same("why", x.told(away == 0 ? 1 : 0, 1), 3);
        }
        x.pair(7, 2, 2);
        Checks.same("two PARTIES: the one", x.evening(0b1010100001, true), 4);
        Checks.same("two PARTIES: the other", x.evening(0b0101001110, true), 5);
    }

    private static void partyByTheFirstOfIt() {
        Checks.sentence("PARTY by PARTY, as the first of each stands in THE ORDER");
        NightShelter x = Shelters.rooms(Shelters.with(4), 2);
        x.pair(1, 3, 1);
        Checks.take(x, "when age=23:add 2;when age=20:add 1;when age=22:add 1;");
        Checks.same("the PARTY's first stands first", x.evening(0b1111, false), 2);
        Shelters.told(x, 2, 1, 3, 2, 0);
        Shelters.told(x, 1, 5, 0, 5, 0);
        Checks.take(x, "when age=22:add 1;when age=23:add -1;");
        x.bar(0, true);
        Checks.same("the PARTY's first stands behind one", x.evening(0b1111, false), 1);
        Shelters.told(x, 1, 1, 5, 0, 5);
        Checks.take(x, "");
        Checks.same("one PARTY does not fit, a later one does", x.evening(0b1110, false), 2);
    }

    private static void takenIfAllAreInTheOrder() {
        Checks.sentence("it is TAKEN if all of it are in THE ORDER");
        NightShelter x = Shelters.rooms(Shelters.with(3), 6);
        x.pair(0, 1, 1);
        Checks.same("both", x.evening(7, false), 3);
        Checks.same("one is away", x.evening(5, false), 1);
        Shelters.told(x, 1, 3, -1, 0);
        x.bar(1, true);
        Checks.same("one is BARRED", x.evening(7, false), 1);
        Shelters.told(x, 1, 3, 1, 0);
        x.bar(1, false);
        Checks.take(x, "when age=20:bar;");
        Checks.same("a LINE bars one", x.evening(7, false), 1);
        Shelters.told(x, 1, 2, 3, 0);
    }

    private static void takenIfThereIsAPlacing() {
        Checks.sentence("there is a PLACING of all who were TAKEN so far and these");
        NightShelter x = new NightShelter();
        x.person(30, 1, true, false);
        x.person(30, 1, true, true);
        x.person(30, 1, false, false);
        x.person(30, 1, true, false);
        x.room(1, 0, false, false, 0);
        x.room(1, 0, true, true, 0);
        x.room(1, 0, true, false, 0);
        Checks.same("the first makes way twice", x.evening(0b0111, false), 3);
        Shelters.told(x, 0, 2, 1, 0, -1);
        Checks.same("a fourth", x.evening(0b1111, false), 3);
        Checks.same("it stands first by TURNED next time", x.evening(0b1111, false), 3);
        Shelters.told(x, 1, 0, 0, 5, 0);
        NightShelter y = Shelters.rooms(Shelters.with(7), 3, 3);
        y.pair(2, 3, 1);
        y.pair(4, 5, 1);
        Checks.same("the first two in two ROOMS, for two PARTIES of two", evening(y, 6), 6);
        Shelters.told(y, 0, 0, 1, 0, 0, 1, 1);
        Checks.same("and no place for one more", evening(y, 7), 6);
        Shelters.told(y, 1, 0, 0, 0, 0, 0, 0, 5);
    }

    private static void notMoreThanItHolds() {
        Checks.sentence("A PLACING puts each in a ROOM: not more than it holds");
        NightShelter x = Shelters.with(10);
        x.room(2, 1, false, false, 0);
        x.room(1, 3, false, false, 0);
        Checks.same("three places", evening(x, 3), 3);
        Checks.same("three places for four", evening(x, 4), 3);
        Checks.same("seven on a COLD night", x.evening(0x7f, true), 7);
        Checks.same("seven for ten", x.evening(0x3ff, true), 7);
        Checks.same("ROOM 0", Integer.bitCount(x.book(3, 10)), 3);
        Checks.same("ROOM 1", Integer.bitCount(x.book(3, 11)), 4);
        NightShelter y = Shelters.rooms(Shelters.with(3), 2);
        y.pair(1, 2, 1);
        Checks.same("a PARTY of two where one place is left", evening(y, 3), 1);
        Checks.same("a PARTY of two where two are left", y.evening(0b110, false), 2);
    }

    private static void noTwoWhoAreApart() {
        Checks.sentence("no two who are APART");
        NightShelter x = Shelters.rooms(Shelters.with(4), 6);
        x.pair(1, 0, 0);
        Checks.same("one of two", evening(x, 2), 1);
        x.pair(1, 0, 2);
        Checks.same("no PAIR any more", evening(x, 2), 2);
        x.pair(0, 1, 0);
        x.room(1, 0, false, false, 0);
        Checks.same("in two ROOMS", evening(x, 4), 4);
        Shelters.told(x, 0, 0, 1, 0, 0);
        x.pair(2, 3, 1);
        x.pair(1, 2, 0);
        Checks.same("one APART from one of a PARTY", evening(x, 4), 4);
        x.pair(3, 0, 0);
        Checks.same("the PARTY is APART from both", evening(x, 4), 2);
    }

    private static void aPartyInOne() {
        Checks.sentence("a PARTY in one");
        NightShelter x = Shelters.rooms(Shelters.with(4), 1, 1, 3);
        x.pair(0, 3, 1);
        Checks.same("all", evening(x, 4), 4);
        Shelters.told(x, 0, 2, 0, 1, 2);
        x.pair(0, 1, 1);
        x.pair(1, 2, 1);
        Checks.same("no ROOM for four, places for five", evening(x, 4), 0);
        NightShelter y = new NightShelter();
        y.person(30, 1, true, false);
        y.person(30, 1, true, false);
        y.person(30, 1, false, false);
        y.room(2, 0, false, false, 0);
        y.room(2, 0, true, false, 0);
        y.pair(0, 2, 0);
        y.evening(0b101, false);
        y.evening(0b010, false);
        Shelters.tell(y, 5, 1, 0, 0);
        y.pair(0, 1, 1);
        Checks.same("TOGETHER, after they slept in two ROOMS", evening(y, 2), 2);
        Shelters.told(y, 0, 1, 1);
    }

    private static void allOfOneIll() {
        Checks.sentence("all of one ILL");
        for (int a = 0; a <= 3; a++) {
            for (int b = 0; b <= 3; b++) {
                NightShelter x = Shelters.rooms(Shelters.with(2), 6);
                x.ill(0, a);
                x.ill(1, b);
                Checks.same("ILLS " + a + " and " + b, evening(x, 2), a == b ? 2 : 1);
                Checks.same("TOGETHER", together(x), a == b ? 2 : 0);
            }
        }
        NightShelter y = Shelters.rooms(Shelters.with(5), 6, 6, 6, 6);
        for (int i = 0; i < 4; i++) {
            y.ill(i, i);
        }
        y.ill(4, 2);
        Checks.same("four ILLS in four ROOMS", evening(y, 5), 5);
        Shelters.told(y, 0, 0, 1, 2, 3, 2);
    }

    private static int together(NightShelter x) {
        x.pair(0, 1, 1);
        return evening(x, 2);
    }

    private static void stairs() {
        Checks.sentence("nobody who can't climb where STAIRS are");
        for (int i = 0; i < 4; i++) {
            boolean stairs = (i & 1) != 0;
            boolean climbs = (i & 2) != 0;
            NightShelter x = new NightShelter();
            x.room(1, 0, stairs, false, 0);
            x.person(30, 1, climbs, false);
            Checks.same("STAIRS " + stairs + ", climbs " + climbs, evening(x, 1), stairs && !climbs ? 0 : 1);
        }
    }

    private static void dogs() {
        Checks.sentence("with a DOG where none are let in");
        for (int i = 0; i < 4; i++) {
            boolean dogs = (i & 1) != 0;
            boolean dog = (i & 2) != 0;
            NightShelter x = new NightShelter();
            x.room(1, 0, false, dogs, 0);
            x.person(30, 1, false, dog);
            Checks.same("DOGS " + dogs + ", with one " + dog, evening(x, 1), dog && !dogs ? 0 : 1);
        }
    }

    private static void kinds() {
        Checks.sentence("of another KIND than the ROOM's");
        for (int room = 0; room <= 2; room++) {
            for (int kind = 1; kind <= 2; kind++) {
                NightShelter x = new NightShelter();
                x.room(2, 0, false, false, room);
                x.person(30, kind, false, false);
                x.person(30, 3 - kind, false, false);
                boolean taken = room == 0 || room == kind;
                Checks.same("KIND " + kind + " in ROOM of " + room, evening(x, 1), taken ? 1 : 0);
                Checks.same("a mixed PARTY in ROOM of " + room, together(x), room == 0 ? 2 : 0);
            }
        }
    }

    private static void ownRoomAheadOfAll() {
        Checks.sentence("its own ROOM of last time ahead of all");
        NightShelter x = Shelters.rooms(Shelters.with(5), 1, 1, 1, 2);
        evening(x, 4);
        Shelters.told(x, 0, 0, 1, 2, 3);
        x.evening(0b1000, false);
        Checks.same("alone in its own", x.told(3, 0), 3);
        x.evening(0, false);
        x.evening(0b1100, false);
        Shelters.told(x, 0, -1, -1, 2, 3);
        x.evening(0b10111, false);
        Shelters.told(x, 0, 0, 1, 2, -1, 3);
        x.evening(0b11000, false);
        Shelters.told(x, 0, -1, -1, -1, 3, 3);
        Shelters.tell(x, 5, 0, 1, 2, 3, 3);
    }

    private static void thenFromZeroOn() {
        Checks.sentence("then from 0 on");
        NightShelter x = Shelters.rooms(Shelters.with(4), 1, 1, 2);
        x.evening(0b0100, false);
        Checks.same("without an own ROOM: the first", x.told(2, 0), 0);
        x.evening(0b0111, false);
        Shelters.told(x, 0, 0, 1, 2, -1);
        x.ill(0, 1);
        x.evening(0b0110, false);
        Shelters.told(x, 0, -1, 1, 2, -1);
        x.pair(2, 3, 0);
        x.evening(0b1110, false);
        Shelters.told(x, 0, -1, 1, 2, 0);
        x.pair(1, 3, 1);
        x.pair(2, 3, 2);
        x.evening(0b1010, false);
        Checks.same("its own does not hold both", x.told(1, 0), 2);
    }

    private static void withWhichTheOthersCanBePlaced() {
        Checks.sentence("each in the first ROOM with which the others can be placed, too");
        NightShelter x = new NightShelter();
        x.person(30, 1, true, false);
        x.person(30, 1, false, false);
        x.room(1, 0, false, false, 0);
        x.room(1, 0, true, false, 0);
        evening(x, 1);
        Checks.same("alone in ROOM 0", x.told(0, 0), 0);
        evening(x, 2);
        Shelters.told(x, 0, 1, 0);
        evening(x, 1);
        Checks.same("where it slept last, not where it slept first", x.told(0, 0), 1);
        NightShelter y = new NightShelter();
        y.person(30, 1, true, false);
        y.person(30, 1, false, false);
        y.person(30, 1, true, false);
        y.room(1, 0, false, false, 0);
        y.room(1, 0, true, false, 0);
        y.room(1, 0, true, false, 0);
        y.evening(0b101, false);
        Shelters.tell(y, 5, 0, -1, 1);
        evening(y, 3);
        Shelters.told(y, 0, 1, 0, 2);
    }

    private static void leastNumberFirst() {
        Checks.sentence("THE PLACING of all TAKEN, at the end: by numbers, the least first");
        NightShelter x = Shelters.rooms(Shelters.with(3), 1, 1, 1);
        Checks.take(x, "when age=22:add 2;when age=21:add 1;");
        evening(x, 3);
        Shelters.told(x, 2, 2, 1, 0);
        Shelters.told(x, 0, 0, 1, 2);
        NightShelter y = Shelters.rooms(Shelters.with(3), 1, 2);
        y.evening(0b100, false);
        y.evening(0b001, false);
        y.evening(0b101, false);
        Checks.same("both slept in ROOM 0: the least has it", y.told(0, 0), 0);
        Checks.same("the other has not", y.told(2, 0), 1);
        y.pair(1, 2, 1);
        evening(y, 3);
        Shelters.told(y, 0, 0, 1, 1);
    }
}
