/** Promises 14, 15, 17 and 18, with HELPERS, TURNED and WHY of the Terms, at their boundaries. */
public final class EveningAnswersEdgesTest {
    private static final int MIN = Shelters.MIN;
    private static final int MAX = Shelters.MAX;

    public static void main(String[] args) {
        oneHelperForEachRoom();
        oneMoreIfMoreThanEight();
        whoCanComeThatDay();
        nightsLeftThisWeek();
        fewestNightsInAll();
        notEnoughHelpers();
        nightsAndTurned();
        turnedOfWhoIsBarred();
        whyBarredFirst();
        whyLineThen();
        whyPartyThen();
        whyNoRoomThen();
        whyNoPlacingLast();
        toldOfTheLatest();
        toldRoom();
        toldWhy();
        toldPlace();
        toldOfNobody();
        toldBeforeAnyEvening();
        toldAnotherWhat();
        calledOfTheLatest();
        calledOfNone();
        dutyOfAWeek();
        dutyOfNone();
        bookOfAnEvening();
        bookOfNoEvening();
        bookOfNoRoomThen();
        bookAnotherWhat();
        Checks.close();
    }

    private static NightShelter helpers(NightShelter x, int helpers) {
        for (int i = 0; i < helpers; i++) {
            x.helper(127, 7);
        }
        return x;
    }

    private static void oneHelperForEachRoom() {
        Checks.sentence("HELPERS: one for each ROOM with people");
        for (int taken = 0; taken <= 4; taken++) {
            NightShelter x = helpers(Shelters.rooms(Shelters.with(4), 1, 1, 1, 1), 8);
            x.evening(Shelters.all(taken), false);
            Checks.same("ROOMS with people " + taken, x.book(0, 2), Shelters.all(taken));
            Checks.same("none is wanting", x.book(0, 3), 0);
        }
        NightShelter y = helpers(Shelters.rooms(Shelters.with(6), 6, 6), 8);
        y.evening(Shelters.all(6), false);
        Checks.same("six in one ROOM", y.book(0, 2), 1);
    }

    private static void oneMoreIfMoreThanEight() {
        Checks.sentence("one more if more than 8 were TAKEN");
        for (int taken = 7; taken <= 10; taken++) {
            NightShelter x = helpers(Shelters.rooms(Shelters.with(10), 5, 5), 8);
            Checks.same("TAKEN", x.evening(Shelters.all(taken), false), taken);
            Checks.same("HELPERS for " + taken, x.book(0, 2), taken > 8 ? 7 : 3);
        }
        NightShelter y = helpers(Shelters.rooms(Shelters.with(10), 4, 4), 8);
        Checks.same("TAKEN of ten", y.evening(Shelters.all(10), false), 8);
        Checks.same("HELPERS for eight of ten", y.book(0, 2), 3);
    }

    private static void whoCanComeThatDay() {
        Checks.sentence("Of those who can come that day and have nights left this week (7 evenings from 0 on are a week)");
        NightShelter x = Shelters.rooms(Shelters.with(1), 1);
        x.helper(0b1000000, 7);
        x.helper(0b0000001, 7);
        for (int evening = 0; evening < 15; evening++) {
            x.evening(1, false);
            Shelters.called(x, evening % 7 == 6, evening % 7 == 0);
            Checks.same("wanting", x.book(evening, 3), evening % 7 == 0 || evening % 7 == 6 ? 0 : 1);
        }
        NightShelter y = Shelters.rooms(Shelters.with(1), 1);
        y.helper(0, 7);
        y.evening(1, false);
        Checks.same("on no day", y.called(0), false);
    }

    private static void nightsLeftThisWeek() {
        Checks.sentence("Of those who can come that day and have nights left this week (7 evenings from 0 on are a week)");
        NightShelter x = Shelters.rooms(Shelters.with(1), 1);
        x.helper(127, 1);
        x.helper(127, 2);
        boolean[] first = {true, false, false, false, false, false, false, true, false, false};
        boolean[] second = {false, true, true, false, false, false, false, false, true, true};
        for (int evening = 0; evening < first.length; evening++) {
            x.evening(1, false);
            Shelters.called(x, first[evening], second[evening]);
        }
        NightShelter y = Shelters.rooms(Shelters.with(1), 1);
        y.helper(127, 1);
        for (int evening = 0; evening < 6; evening++) {
            y.evening(0, false);
        }
        y.evening(1, false);
        Checks.same("on evening 6", y.called(0), true);
        y.evening(1, false);
        Checks.same("on evening 7, of the next week", y.called(0), true);
        y.evening(1, false);
        Checks.same("on evening 8", y.called(0), false);
    }

    private static void fewestNightsInAll() {
        Checks.sentence("who had the fewest nights in all, then by numbers");
        NightShelter x = helpers(Shelters.rooms(Shelters.with(2), 1, 1), 3);
        x.evening(1, false);
        Shelters.called(x, true, false, false);
        x.evening(3, false);
        Shelters.called(x, false, true, true);
        x.evening(3, false);
        Shelters.called(x, true, true, false);
        x.evening(1, false);
        Shelters.called(x, false, false, true);
        x.evening(1, false);
        Shelters.called(x, true, false, false);
        x.helper(127, 7);
        for (int i = 0; i < 2; i++) {
            x.evening(1, false);
            Shelters.called(x, false, false, false, true);
        }
        x.evening(1, false);
        Shelters.called(x, false, true, false, false);
    }

    private static void notEnoughHelpers() {
        Checks.sentence("If there are not enough, all of them come.");
        for (int there = 0; there <= 6; there++) {
            NightShelter x = helpers(Shelters.rooms(Shelters.with(10), 3, 3, 3, 1), there);
            x.helper(0b1111110, 7);
            Checks.same("TAKEN", x.evening(Shelters.all(10), false), 10);
            Checks.same("of " + there + " come", x.book(0, 2), Shelters.all(Math.min(there, 5)));
            Checks.same("of " + there + " are wanting", x.book(0, 3), Math.max(0, 5 - there));
        }
    }

    private static void nightsAndTurned() {
        Checks.sentence("Then those TAKEN have one NIGHT more, TURNED 0, and their ROOM; the others who stood at the door "
                + "one TURNED more");
        NightShelter x = Shelters.rooms(Shelters.with(3), 1);
        x.evening(3, false);
        Shelters.tell(x, 3, 1, 0, 0);
        Shelters.tell(x, 4, 0, 1, 0);
        Shelters.tell(x, 5, 0, -1, -1);
        x.evening(1, false);
        Shelters.tell(x, 3, 2, 0, 0);
        Shelters.tell(x, 4, 0, 1, 0);
        x.bar(0, true);
        x.bar(1, true);
        x.evening(3, false);
        Shelters.tell(x, 3, 2, 0, 0);
        Shelters.tell(x, 4, 1, 2, 0);
        Shelters.tell(x, 5, 0, -1, -1);
        x.bar(1, false);
        x.evening(3, false);
        Shelters.tell(x, 3, 2, 1, 0);
        Shelters.tell(x, 4, 2, 0, 0);
        Shelters.tell(x, 5, 0, 0, -1);
    }

    private static void turnedOfWhoIsBarred() {
        Checks.sentence("(also who is BARRED)");
        NightShelter x = Shelters.rooms(Shelters.with(2), 6);
        x.bar(0, true);
        Checks.take(x, "when age=21:bar;");
        for (int i = 1; i <= 3; i++) {
            x.evening(3, false);
            Shelters.tell(x, 4, i, i);
        }
        x.bar(0, false);
        Shelters.tell(x, 4, 3, 3);
        x.evening(1, false);
        Shelters.tell(x, 4, 0, 3);
    }

    private static void whyBarredFirst() {
        Checks.sentence("WHY one was not TAKEN, the first that holds: 1 BARRED");
        NightShelter x = Shelters.with(3);
        x.pair(0, 1, 1);
        x.bar(0, true);
        Checks.take(x, "when age=20:bar;");
        x.evening(5, false);
        Checks.same("BARRED, by a LINE, with one away, without ROOMS", x.told(0, 1), 1);
        x.bar(0, false);
        x.evening(5, false);
        Checks.same("no more BARRED", x.told(0, 1), 2);
    }

    private static void whyLineThen() {
        Checks.sentence("2 by a LINE");
        NightShelter x = Shelters.with(2);
        x.pair(0, 1, 1);
        Checks.take(x, "when age=20:bar;");
        x.evening(1, false);
        Checks.same("by a LINE, with one away, without ROOMS", x.told(0, 1), 2);
        x.evening(3, false);
        Shelters.told(x, 1, 2, 3);
        x.text();
        x.evening(1, false);
        Checks.same("without the LINE", x.told(0, 1), 3);
    }

    private static void whyPartyThen() {
        Checks.sentence("3 one of the PARTY is not in THE ORDER");
        NightShelter x = Shelters.with(4);
        x.pair(0, 1, 1);
        x.pair(1, 2, 1);
        x.evening(0b011, false);
        Shelters.told(x, 1, 3, 3, -1, -1);
        x.evening(0b101, false);
        Shelters.told(x, 1, 3, -1, 3, -1);
        x.evening(0b111, false);
        Shelters.told(x, 1, 4, 4, 4, -1);
        x.room(2, 1, false, false, 0);
        x.evening(0b1011, false);
        Shelters.told(x, 1, 3, 3, -1, 0);
        x.bar(2, true);
        x.evening(0b111, true);
        Shelters.told(x, 1, 3, 3, 1, -1);
        x.bar(2, false);
        x.evening(0b111, true);
        Shelters.told(x, 1, 0, 0, 0, -1);
    }

    private static void whyNoRoomThen() {
        Checks.sentence("4 no ROOM would take the PARTY even if all were empty");
        NightShelter x = Shelters.rooms(Shelters.with(4), 2);
        x.room(2, 1, false, false, 0);
        x.pair(0, 1, 1);
        x.pair(1, 2, 1);
        x.evening(0b1111, false);
        Shelters.told(x, 1, 4, 4, 4, 0);
        x.evening(0b1111, true);
        Shelters.told(x, 1, 0, 0, 0, 0);
        x.pair(0, 2, 0);
        x.evening(0b0111, true);
        Shelters.told(x, 1, 4, 4, 4, -1);
        x.pair(0, 2, 1);
        x.ill(2, 1);
        x.evening(0b0111, true);
        Shelters.told(x, 1, 4, 4, 4, -1);
        NightShelter y = new NightShelter();
        y.person(30, 1, false, true);
        y.person(30, 2, true, false);
        y.room(6, 0, true, true, 0);
        y.room(6, 0, false, false, 0);
        y.room(6, 0, false, true, 2);
        y.evening(3, false);
        Shelters.told(y, 1, 4, 0);
        y.room(6, 0, false, true, 1);
        y.evening(3, false);
        Shelters.told(y, 1, 0, 0);
    }

    private static void whyNoPlacingLast() {
        Checks.sentence("5 there was no PLACING");
        NightShelter x = Shelters.rooms(Shelters.with(6), 2);
        x.pair(1, 2, 1);
        x.pair(3, 4, 1);
        x.pair(4, 5, 1);
        x.evening(0b111111, false);
        Shelters.told(x, 1, 0, 5, 5, 4, 4, 4);
        x.evening(0b111110, false);
        Shelters.told(x, 1, -1, 0, 0, 4, 4, 4);
        NightShelter y = Shelters.rooms(Shelters.with(3), 6);
        y.pair(0, 1, 0);
        y.ill(2, 1);
        y.evening(7, false);
        Shelters.told(y, 1, 0, 5, 5);
    }

    private static void toldOfTheLatest() {
        Checks.sentence("Of the latest evening: the ROOM of one of the PEOPLE (what 0; NONE if not TAKEN)");
        NightShelter x = Shelters.rooms(Shelters.with(2), 1, 1);
        x.evening(3, false);
        Shelters.told(x, 0, 0, 1);
        x.evening(2, false);
        Shelters.told(x, 0, -1, 1);
        Shelters.tell(x, 5, 0, 1);
        x.evening(0, false);
        Shelters.told(x, 0, -1, -1);
        Shelters.told(x, 1, -1, -1);
        Shelters.told(x, 2, -1, -1);
        Shelters.tell(x, 5, 0, 1);
    }

    private static void toldRoom() {
        Checks.sentence("Of the latest evening: the ROOM of one of the PEOPLE (what 0; NONE if not TAKEN)");
        NightShelter x = Shelters.rooms(Shelters.with(6), 1, 1, 1, 1);
        x.evening(0b11111, false);
        Shelters.told(x, 0, 0, 1, 2, 3, -1, -1);
    }

    private static void toldWhy() {
        Checks.sentence("WHY not TAKEN (1; 0 if TAKEN, NONE if not at the door)");
        NightShelter x = Shelters.rooms(Shelters.with(5), 1);
        x.bar(1, true);
        x.bar(4, true);
        Checks.take(x, "when age=22:bar;");
        x.evening(0b01111, false);
        Shelters.told(x, 1, 0, 1, 2, 5, -1);
        x.evening(0b10000, false);
        Shelters.told(x, 1, -1, -1, -1, -1, 1);
        x.bar(4, false);
        Checks.same("as it was that evening", x.told(4, 1), 1);
    }

    private static void toldPlace() {
        Checks.sentence("the place in THE ORDER (2; NONE)");
        NightShelter x = Shelters.with(24);
        x.bar(20, true);
        x.evening(0b1111_1111_1100_0000_0000_0000, false);
        int place = 0;
        for (int person = 0; person < 24; person++) {
            boolean ordered = person >= 14 && person != 20;
            Checks.same("told(" + person + ", 2)", x.told(person, 2), ordered ? place : -1);
            place += ordered ? 1 : 0;
        }
    }

    private static void toldOfNobody() {
        Checks.sentence("NONE if there is none such, there was no evening, or for another what.");
        NightShelter x = Shelters.rooms(Shelters.with(2), 6);
        x.evening(3, false);
        Shelters.told(x, 0, 0, 0);
        for (int person : new int[] {-1, 2, 23, 24, 32, 33, -31, 256, MIN, MAX}) {
            for (int what = -1; what <= 3; what++) {
                Checks.same("told(" + person + ", " + what + ")", x.told(person, what), -1);
            }
        }
        x.person(30, 1, true, true);
        for (int what = 0; what <= 2; what++) {
            Checks.same("one who came since: told(2, " + what + ")", x.told(2, what), -1);
        }
    }

    private static void toldBeforeAnyEvening() {
        Checks.sentence("NONE if there is none such, there was no evening, or for another what.");
        NightShelter x = Shelters.rooms(Shelters.with(24), 6);
        for (int what = 0; what <= 2; what++) {
            Checks.same("told(0, " + what + ")", x.told(0, what), -1);
            Checks.same("told(23, " + what + ")", x.told(23, what), -1);
        }
        x.evening(-1, false);
        Checks.same("after one that was refused", x.told(0, 1), -1);
        x.evening(1, false);
        Checks.same("after one that was", x.told(0, 1), 0);
    }

    private static void toldAnotherWhat() {
        Checks.sentence("NONE if there is none such, there was no evening, or for another what.");
        NightShelter x = Shelters.rooms(Shelters.with(1), 6);
        x.evening(1, false);
        for (int what : new int[] {-1, 3, 4, 32, 256, MIN, MAX}) {
            Checks.same("told(0, " + what + ")", x.told(0, what), -1);
        }
        for (int what = 0; what <= 2; what++) {
            Checks.same("told(0, " + what + ")", x.told(0, what), 0);
        }
    }

    private static void calledOfTheLatest() {
        Checks.sentence("Of the latest evening: whether a HELPER was called.");
        NightShelter x = helpers(Shelters.rooms(Shelters.with(1), 1), 8);
        Shelters.called(x, false, false, false, false, false, false, false, false);
        for (int evening = 0; evening < 9; evening++) {
            x.evening(1, false);
            for (int helper = 0; helper < 8; helper++) {
                Checks.same("evening " + evening + ": called(" + helper + ")", x.called(helper), evening % 8 == helper);
            }
        }
        x.evening(0, false);
        Shelters.called(x, false, false, false, false, false, false, false, false);
    }

    private static void calledOfNone() {
        Checks.sentence("False, too, if there is none such.");
        NightShelter x = helpers(Shelters.rooms(Shelters.with(4), 1, 1, 1, 1), 2);
        x.evening(15, false);
        Shelters.called(x, true, true);
        for (int helper : new int[] {-1, 2, 7, 8, 31, 32, 33, -31, -32, 256, MIN, MAX}) {
            Checks.same("called(" + helper + ")", x.called(helper), false);
        }
        x.helper(127, 7);
        Checks.same("one who came since", x.called(2), false);
    }

    private static void dutyOfAWeek() {
        Checks.sentence("Of a HELPER, what 0: nights in all, 1: nights left this week (of the evening that comes).");
        NightShelter x = Shelters.rooms(Shelters.with(1), 1);
        x.helper(127, 3);
        int[] left = {3, 2, 1, 0, 0, 0, 0, 3, 2, 1, 0, 0, 0, 0, 3};
        int[] inAll = {0, 1, 2, 3, 3, 3, 3, 3, 4, 5, 6, 6, 6, 6, 6};
        for (int evening = 0; evening < left.length; evening++) {
            Checks.same("left ahead of evening " + evening, x.duty(0, 1), left[evening]);
            Checks.same("in all ahead of evening " + evening, x.duty(0, 0), inAll[evening]);
            x.evening(1, false);
        }
        NightShelter y = Shelters.rooms(Shelters.with(1), 1);
        y.evening(1, false);
        y.helper(127, 7);
        Checks.same("one who came in the week", y.duty(0, 1), 7);
        for (int evening = 1; evening < 7; evening++) {
            y.evening(1, false);
            Checks.same("after evening " + evening, y.duty(0, 1), evening == 6 ? 7 : 7 - evening);
        }
        Checks.same("in all", y.duty(0, 0), 6);
    }

    private static void dutyOfNone() {
        Checks.sentence("NONE if there is none such, or for another what.");
        NightShelter x = helpers(new NightShelter(), 7);
        Checks.same("duty(6, 1)", x.duty(6, 1), 7);
        for (int helper : new int[] {-1, 7, 8, 32, -32, 256, MIN, MAX}) {
            for (int what = -1; what <= 2; what++) {
                Checks.same("duty(" + helper + ", " + what + ")", x.duty(helper, what), -1);
            }
        }
        for (int what : new int[] {-1, 2, 3, 32, 256, MIN, MAX}) {
            Checks.same("duty(0, " + what + ")", x.duty(0, what), -1);
        }
        Checks.same("duty(0, 0)", x.duty(0, 0), 0);
        x.helper(127, 1);
        Checks.same("duty(7, 1)", x.duty(7, 1), 1);
    }

    private static void bookOfAnEvening() {
        Checks.sentence("Of an evening that was, what 0: who stood at the door (bits), 1: who was TAKEN, 2: HELPERS called "
                + "(bits), 3: how many HELPERS were wanting, 4: 1 if it was COLD, else 0; 10 .. 13: who slept in ROOM "
                + "what - 10.");
        NightShelter x = Shelters.rooms(Shelters.with(24), 1, 1, 1, 1);
        x.helper(127, 7);
        x.helper(0b0000001, 7);
        x.evening(0b1000_0000_0000_0000_0001_1111, true);
        x.evening(0b1000_0000_0000_0000_0000_0000, false);
        x.evening(0, true);
        int last = 1 << 23;
        int[][] due = {{last | 31, 15, 3, 2, 1, 1, 2, 4, 8}, {last, last, 1, 0, 0, last, 0, 0, 0},
            {0, 0, 0, 0, 1, 0, 0, 0, 0}};
        for (int evening = 0; evening < 3; evening++) {
            for (int i = 0; i < 9; i++) {
                int what = i < 5 ? i : i + 5;
                Checks.same("book(" + evening + ", " + what + ")", x.book(evening, what), due[evening][i]);
            }
        }
    }

    private static void bookOfNoEvening() {
        Checks.sentence("NONE if there was none such (evening, or ROOM then), or for another what.");
        NightShelter x = Shelters.rooms(Shelters.with(1), 1);
        Checks.same("book(0, 0) before any", x.book(0, 0), -1);
        x.evening(1, false);
        x.evening(1, false);
        for (int evening : new int[] {-1, 2, 3, 256, 400, MIN, MAX}) {
            for (int what : new int[] {-1, 0, 1, 2, 3, 4, 10, 11}) {
                Checks.same("book(" + evening + ", " + what + ")", x.book(evening, what), -1);
            }
        }
        Checks.same("book(0, 0)", x.book(0, 0), 1);
        Checks.same("book(1, 0)", x.book(1, 0), 1);
    }

    private static void bookOfNoRoomThen() {
        Checks.sentence("NONE if there was none such (evening, or ROOM then), or for another what.");
        NightShelter x = Shelters.with(1);
        for (int rooms = 0; rooms <= 4; rooms++) {
            x.evening(0, false);
            Shelters.rooms(x, 1);
        }
        for (int evening = 0; evening <= 4; evening++) {
            for (int room = 0; room < 4; room++) {
                Checks.same("evening " + evening + ", ROOM " + room, x.book(evening, 10 + room), room < evening ? 0 : -1);
            }
        }
    }

    private static void bookAnotherWhat() {
        Checks.sentence("NONE if there was none such (evening, or ROOM then), or for another what.");
        NightShelter x = Shelters.rooms(Shelters.with(10), 1, 1, 1, 1);
        x.evening(Shelters.all(10), true);
        for (int what : new int[] {-1, 5, 6, 7, 8, 9, 14, 15, 32, 42, 256, MIN, MAX, MIN + 10, MAX - 10}) {
            Checks.same("book(0, " + what + ")", x.book(0, what), -1);
        }
        Checks.same("book(0, 4)", x.book(0, 4), 1);
        Checks.same("book(0, 10)", x.book(0, 10), 1);
        Checks.same("book(0, 13)", x.book(0, 13), 8);
    }
}
