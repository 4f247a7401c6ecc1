/** Promises 6 to 11, 16 and 19, and ROOMS, PEOPLE, PAIRS and HELPERS of the Terms, at their boundaries. */
public final class HouseEdgesTest {
    private static final int MIN = Shelters.MIN;
    private static final int MAX = Shelters.MAX;

    public static void main(String[] args) {
        fourRooms();
        roomsHold();
        roomsHaveMats();
        roomsAreOfAKind();
        refusedRoomIsNone();
        twentyFourPeople();
        agesOfPeople();
        kindsOfPeople();
        refusedPersonIsNone();
        newPeople();
        illsOfPeople();
        illOfNobody();
        barAndNoMore();
        barOfNobody();
        twentyPairs();
        eachPairOnce();
        pairsChange();
        pairOfNobody();
        pairOfOne();
        pairForAnotherHow();
        eightHelpers();
        daysOfHelpers();
        nightsOfHelpers();
        tellsOfPeople();
        tellOfNobody();
        tellAnotherWhat();
        tellPairs();
        counts();
        countAnotherWhat();
        Checks.close();
    }

    private static void fourRooms() {
        Checks.sentence("NONE: there are 4, or other numbers.");
        NightShelter x = new NightShelter();
        for (int i = 0; i < 4; i++) {
            Checks.same("ROOMS ahead of room " + i, x.count(0), i);
            Checks.same("room " + i, x.room(6, 3, true, true, 2), i);
        }
        Checks.same("a fifth", x.room(6, 3, true, true, 2), -1);
        Checks.same("another fifth", x.room(1, 0, false, false, 0), -1);
        Checks.same("ROOMS", x.count(0), 4);
        Checks.same("how many they hold", x.count(6), 24);
        Checks.same("on COLD nights", x.count(7), 36);
    }

    private static void roomsHold() {
        Checks.sentence("hold 1 .. 6 people");
        for (int holds : new int[] {1, 2, 3, 4, 5, 6}) {
            NightShelter x = Shelters.with(8);
            Checks.same("room that holds " + holds, x.room(holds, 0, false, false, 0), 0);
            Checks.same("count(6)", x.count(6), holds);
            Checks.same("one more at the door", x.evening(Shelters.all(holds + 1), false), holds);
            Checks.same("just so many", x.evening(Shelters.all(holds), false), holds);
        }
        for (int holds : new int[] {0, 7, -1, 8, 257, MIN, MAX}) {
            Checks.same("room that holds " + holds, new NightShelter().room(holds, 0, false, false, 0), -1);
        }
    }

    private static void roomsHaveMats() {
        Checks.sentence("and 0 .. 3 more on COLD nights");
        for (int mats : new int[] {0, 1, 2, 3}) {
            NightShelter x = Shelters.with(10);
            Checks.same("room with mats " + mats, x.room(6, mats, false, false, 0), 0);
            Checks.same("count(7)", x.count(7), 6 + mats);
            Checks.same("count(6)", x.count(6), 6);
            Checks.same("on a COLD night", x.evening(Shelters.all(10), true), 6 + mats);
            Checks.same("on another", x.evening(Shelters.all(10), false), 6);
        }
        for (int mats : new int[] {-1, 4, 256, MIN, MAX}) {
            Checks.same("room with mats " + mats, new NightShelter().room(1, mats, false, false, 0), -1);
        }
    }

    private static void roomsAreOfAKind() {
        Checks.sentence("are of KIND 0 (for all), 1 or 2 (for people of that KIND alone)");
        int[] due = {3, 1, 2};
        for (int kind = 0; kind <= 2; kind++) {
            NightShelter x = new NightShelter();
            x.person(30, 1, true, false);
            x.person(30, 2, true, false);
            Checks.same("room of kind " + kind, x.room(2, 0, false, false, kind), 0);
            x.evening(3, false);
            Checks.same("who is TAKEN in kind " + kind, x.book(0, 1), due[kind]);
        }
        for (int kind : new int[] {-1, 3, 256, MIN, MAX}) {
            Checks.same("room of kind " + kind, new NightShelter().room(1, 0, false, false, kind), -1);
        }
    }

    private static void refusedRoomIsNone() {
        Checks.sentence("NONE: there are 4, or other numbers.");
        NightShelter x = new NightShelter();
        x.room(0, 0, true, true, 0);
        x.room(1, 4, true, true, 0);
        x.room(1, 0, true, true, 3);
        Checks.same("no ROOMS", x.count(0), 0);
        Checks.same("they hold none", x.count(7), 0);
        Checks.same("the first has number 0", x.room(1, 0, true, true, 0), 0);
    }

    private static void twentyFourPeople() {
        Checks.sentence("NONE: there are 24, or other numbers.");
        NightShelter x = new NightShelter();
        for (int i = 0; i < 24; i++) {
            Checks.same("PEOPLE ahead of " + i, x.count(1), i);
            Checks.same("person " + i, x.person(i, 1 + i % 2, i % 3 == 0, i % 5 == 0), i);
        }
        Checks.same("a 25th", x.person(30, 1, true, true), -1);
        Checks.same("PEOPLE", x.count(1), 24);
        for (int i = 0; i < 24; i++) {
            Checks.same("AGE of " + i, x.tell(i, 0), i);
            Checks.same("KIND of " + i, x.tell(i, 1), 1 + i % 2);
            Checks.same("climbs " + i, x.tell(i, 7), i % 3 == 0 ? 1 : 0);
            Checks.same("DOG of " + i, x.tell(i, 8), i % 5 == 0 ? 1 : 0);
        }
    }

    private static void agesOfPeople() {
        Checks.sentence("AGE, 0 .. 120");
        for (int age : new int[] {0, 1, 119, 120}) {
            NightShelter x = new NightShelter();
            Checks.same("person of age " + age, x.person(age, 1, true, true), 0);
            Checks.same("its AGE", x.tell(0, 0), age);
        }
        for (int age : new int[] {-1, 121, 256, MIN, MAX}) {
            Checks.same("person of age " + age, new NightShelter().person(age, 1, true, true), -1);
        }
    }

    private static void kindsOfPeople() {
        Checks.sentence("KIND 1 or 2, can climb STAIRS or not");
        for (int kind : new int[] {1, 2}) {
            NightShelter x = new NightShelter();
            Checks.same("person of kind " + kind, x.person(30, kind, true, true), 0);
            Checks.same("its KIND", x.tell(0, 1), kind);
        }
        for (int kind : new int[] {0, 3, -1, 257, MIN, MAX}) {
            Checks.same("person of kind " + kind, new NightShelter().person(30, kind, true, true), -1);
        }
    }

    private static void refusedPersonIsNone() {
        Checks.sentence("NONE: there are 24, or other numbers.");
        NightShelter x = new NightShelter();
        x.person(-1, 1, true, true);
        x.person(30, 0, true, true);
        Checks.same("no PEOPLE", x.count(1), 0);
        Checks.same("the first has number 0", x.person(30, 1, false, false), 0);
        Checks.same("it does not climb", x.tell(0, 7), 0);
        Checks.same("it has no DOG", x.tell(0, 8), 0);
    }

    private static void newPeople() {
        Checks.sentence("ILL, 0 (well) .. 3, NIGHTS that they slept here in all, TURNED: how many evenings in a row "
                + "they stood at the door and were turned away, a ROOM: where they slept last (NONE), BARRED or not.");
        NightShelter x = new NightShelter();
        for (int i = 0; i < 24; i++) {
            x.person(30, 1, true, true);
            int[] due = {0, 0, 0, -1, 0};
            for (int what = 2; what <= 6; what++) {
                Checks.same("new: tell(" + i + ", " + what + ")", x.tell(i, what), due[what - 2]);
            }
        }
    }

    private static void illsOfPeople() {
        Checks.sentence("False: there is none such, or another ILL.");
        NightShelter x = Shelters.with(24);
        for (int ill : new int[] {0, 1, 2, 3, 3, 0}) {
            Checks.same("ill(23, " + ill + ")", x.ill(23, ill), true);
            Checks.same("its ILL", x.tell(23, 2), ill);
            Checks.same("that of another", x.tell(22, 2), 0);
        }
        x.ill(23, 2);
        for (int ill : new int[] {-1, 4, 5, 256, MIN, MAX}) {
            Checks.same("ill(23, " + ill + ")", x.ill(23, ill), false);
            Checks.same("its ILL is as it was", x.tell(23, 2), 2);
        }
    }

    private static void illOfNobody() {
        Checks.sentence("False: there is none such, or another ILL.");
        NightShelter x = Shelters.with(23);
        Checks.same("ill(0, 1)", x.ill(0, 1), true);
        Checks.same("ill(22, 1)", x.ill(22, 1), true);
        for (int person : new int[] {-1, 23, 24, 32, -32, 256, MIN, MAX}) {
            Checks.same("ill(" + person + ", 1)", x.ill(person, 1), false);
        }
        x.person(30, 1, true, true);
        Checks.same("who comes then is well", x.tell(23, 2), 0);
    }

    private static void barAndNoMore() {
        Checks.sentence("One of the PEOPLE is BARRED, or no more: true; false if it was so, or there is none such.");
        NightShelter x = Shelters.with(24);
        for (int person : new int[] {0, 23}) {
            Checks.same("no more, as it was", x.bar(person, false), false);
            Checks.same("BARRED", x.bar(person, true), true);
            Checks.same("BARRED, as it was", x.bar(person, true), false);
            Checks.same("it is", x.tell(person, 6), 1);
            Checks.same("the others are not", x.tell(1, 6) + x.tell(22, 6), 0);
            Checks.same("no more", x.bar(person, false), true);
            Checks.same("no more, as it was", x.bar(person, false), false);
            Checks.same("it is not", x.tell(person, 6), 0);
        }
    }

    private static void barOfNobody() {
        Checks.sentence("One of the PEOPLE is BARRED, or no more: true; false if it was so, or there is none such.");
        NightShelter x = Shelters.with(23);
        for (int person : new int[] {-1, 23, 24, 32, -32, 256, MIN, MAX}) {
            Checks.same("bar(" + person + ", true)", x.bar(person, true), false);
            Checks.same("bar(" + person + ", false)", x.bar(person, false), false);
        }
        for (int person = 0; person < 23; person++) {
            Checks.same("nobody is: " + person, x.tell(person, 6), 0);
        }
        x.person(30, 1, true, true);
        Checks.same("who comes then is not", x.tell(23, 6), 0);
        Checks.same("who comes then can be", x.bar(23, true), true);
    }

    private static void twentyPairs() {
        Checks.sentence("False: there are no such two, they are one, it was so, there are 20, or for another how.");
        NightShelter x = Shelters.with(24);
        for (int i = 1; i <= 20; i++) {
            Checks.same("PAIR " + i, x.pair(i, i + 1, i % 2), true);
            Checks.same("PAIRS", x.count(2), i);
        }
        Checks.same("a 21st APART", x.pair(0, 1, 0), false);
        Checks.same("a 21st TOGETHER", x.pair(23, 22, 1), false);
        Checks.same("a 21st that is none", x.pair(0, 1, 2), false);
        Checks.same("PAIRS", x.count(2), 20);
        Checks.same("nothing of the 21st", x.tell(0, 9) + x.tell(0, 10) + x.tell(23, 9) + x.tell(23, 10), 0);
        Checks.same("one of them as it was", x.pair(1, 2, 1), false);
        Checks.same("one of them changes", x.pair(1, 2, 0), true);
        Checks.same("PAIRS", x.count(2), 20);
        Checks.same("one of them is none any more", x.pair(21, 20, 2), true);
        Checks.same("PAIRS", x.count(2), 19);
        Checks.same("a 20th again", x.pair(0, 1, 0), true);
        Checks.same("a 21st again", x.pair(0, 2, 0), false);
    }

    private static void eachPairOnce() {
        Checks.sentence("PAIRS of PEOPLE (at most 20, each once) are APART or TOGETHER.");
        NightShelter x = Shelters.with(24);
        Checks.same("pair(0, 23, 1)", x.pair(0, 23, 1), true);
        Checks.same("once more", x.pair(0, 23, 1), false);
        Checks.same("the other way round", x.pair(23, 0, 1), false);
        Checks.same("one PAIR", x.count(2), 1);
        Checks.same("APART, the other way round", x.pair(23, 0, 0), true);
        Checks.same("still one", x.count(2), 1);
        Checks.same("TOGETHER with none", x.tell(0, 10) + x.tell(23, 10), 0);
        Checks.same("APART of one", x.tell(0, 9), 1);
        Checks.same("APART of the other", x.tell(23, 9), 1);
    }

    private static void pairsChange() {
        Checks.sentence("A PAIR is APART (how 0), TOGETHER (1), or none any more (2): true.");
        int[][] due = {{1, 0, 1}, {0, 1, 1}, {0, 0, 0}};
        for (int was = 0; was <= 2; was++) {
            for (int how = 0; how <= 2; how++) {
                NightShelter x = Shelters.with(3);
                x.pair(1, 2, was);
                String call = "pair from " + was + " to " + how;
                Checks.same(call, x.pair(2, 1, how), was != how);
                Checks.same(call + ": APART", x.tell(1, 9), due[how][0]);
                Checks.same(call + ": TOGETHER", x.tell(2, 10), due[how][1]);
                Checks.same(call + ": PAIRS", x.count(2), due[how][2]);
                Checks.same(call + ": nothing of another", x.tell(0, 9) + x.tell(0, 10), 0);
            }
        }
    }

    private static void pairOfNobody() {
        Checks.sentence("False: there are no such two, they are one, it was so, there are 20, or for another how.");
        NightShelter x = Shelters.with(2);
        for (int who : new int[] {-1, 2, 24, 32, 33, -31, 256, MIN, MAX}) {
            for (int how = 0; how <= 2; how++) {
                Checks.same("pair(0, " + who + ", " + how + ")", x.pair(0, who, how), false);
                Checks.same("pair(" + who + ", 0, " + how + ")", x.pair(who, 0, how), false);
                Checks.same("pair(" + who + ", " + who + ", " + how + ")", x.pair(who, who, how), false);
            }
        }
        Checks.same("no PAIRS", x.count(2), 0);
        Checks.same("pair(0, 1, 0)", x.pair(0, 1, 0), true);
        x.person(30, 1, true, true);
        Checks.same("who comes then is in none", x.tell(2, 9) + x.tell(2, 10), 0);
    }

    private static void pairOfOne() {
        Checks.sentence("False: there are no such two, they are one, it was so, there are 20, or for another how.");
        NightShelter x = Shelters.with(24);
        for (int person : new int[] {0, 23}) {
            for (int how = 0; how <= 2; how++) {
                Checks.same("pair(" + person + ", " + person + ", " + how + ")", x.pair(person, person, how), false);
            }
            Checks.same("APART of none", x.tell(person, 9), 0);
            Checks.same("TOGETHER with none", x.tell(person, 10), 0);
        }
        Checks.same("no PAIRS", x.count(2), 0);
    }

    private static void pairForAnotherHow() {
        Checks.sentence("False: there are no such two, they are one, it was so, there are 20, or for another how.");
        for (int how : new int[] {-1, 3, 256, MIN, MAX}) {
            NightShelter x = Shelters.with(3);
            x.pair(0, 1, 1);
            Checks.same("pair(0, 1, " + how + ")", x.pair(0, 1, how), false);
            Checks.same("pair(1, 2, " + how + ")", x.pair(1, 2, how), false);
            Checks.same("one PAIR", x.count(2), 1);
            Checks.same("that is TOGETHER", x.tell(0, 10), 1);
        }
    }

    private static void eightHelpers() {
        Checks.sentence("NONE: there are 8, or other numbers.");
        NightShelter x = new NightShelter();
        for (int i = 0; i < 8; i++) {
            Checks.same("HELPERS ahead of " + i, x.count(3), i);
            Checks.same("helper " + i, x.helper(127, 1 + i % 7), i);
        }
        Checks.same("a ninth", x.helper(127, 7), -1);
        Checks.same("HELPERS", x.count(3), 8);
        Checks.same("the last one's nights", x.duty(7, 1), 1);
        Checks.same("that of the one ahead", x.duty(6, 1), 7);
        Checks.same("there is no ninth", x.duty(8, 1), -1);
    }

    private static void daysOfHelpers() {
        Checks.sentence("HELPERS (at most 8, from 0 on) can come on some days of the week (bits 0 .. 6)");
        for (int days : new int[] {0, 1, 64, 126, 127}) {
            Checks.same("helper on days " + days, new NightShelter().helper(days, 1), 0);
        }
        for (int days : new int[] {-1, 128, 129, 255, 256, MIN, MAX}) {
            NightShelter x = new NightShelter();
            Checks.same("helper on days " + days, x.helper(days, 1), -1);
            Checks.same("no HELPERS", x.count(3), 0);
        }
        for (int day = 0; day < 7; day++) {
            NightShelter x = Shelters.rooms(Shelters.with(1), 1);
            x.helper(1 << day, 7);
            x.helper(127 ^ 1 << day, 7);
            for (int evening = 0; evening < 9; evening++) {
                x.evening(1, false);
                Checks.same("day " + day + " alone, evening " + evening, x.called(0), evening % 7 == day);
                Checks.same("all but day " + day + ", evening " + evening, x.called(1), evening % 7 != day);
            }
        }
    }

    private static void nightsOfHelpers() {
        Checks.sentence("at most so many nights a week, 1 .. 7");
        for (int nights = 1; nights <= 7; nights++) {
            NightShelter x = Shelters.rooms(Shelters.with(1), 1);
            Checks.same("helper for nights " + nights, x.helper(127, nights), 0);
            for (int evening = 0; evening < 15; evening++) {
                Checks.same("left ahead of evening " + evening, x.duty(0, 1), Math.max(0, nights - evening % 7));
                x.evening(1, false);
                Checks.same("called on evening " + evening, x.called(0), evening % 7 < nights);
            }
        }
        for (int nights : new int[] {0, 8, -1, 257, MIN, MAX}) {
            NightShelter x = new NightShelter();
            Checks.same("helper for nights " + nights, x.helper(127, nights), -1);
            Checks.same("no HELPERS", x.count(3), 0);
        }
    }

    private static void tellsOfPeople() {
        Checks.sentence("Of one of the PEOPLE, what 0: AGE, 1: KIND, 2: ILL, 3: NIGHTS, 4: TURNED, 5: ROOM, 6: 1 if "
                + "BARRED, else 0, 7: 1 if it climbs, 8: 1 if it has a DOG");
        NightShelter x = new NightShelter();
        x.room(1, 0, true, false, 1);
        x.room(1, 0, false, true, 2);
        x.person(33, 1, true, false);
        x.person(44, 2, false, true);
        x.person(55, 1, true, true);
        x.ill(1, 3);
        x.bar(2, true);
        x.evening(7, false);
        x.evening(7, false);
        x.evening(4, false);
        int[][] due = {{33, 1, 0, 2, 0, 0, 0, 1, 0}, {44, 2, 3, 2, 0, 1, 0, 0, 1}, {55, 1, 0, 0, 3, -1, 1, 1, 1}};
        for (int what = 0; what <= 8; what++) {
            Shelters.tell(x, what, due[0][what], due[1][what], due[2][what]);
        }
    }

    private static void tellOfNobody() {
        Checks.sentence("NONE if there is none such, or for another what.");
        NightShelter x = Shelters.with(23);
        Checks.same("tell(22, 0)", x.tell(22, 0), 42);
        for (int person : new int[] {-1, 23, 24, 32, -32, 256, MIN, MAX}) {
            for (int what = -1; what <= 11; what++) {
                Checks.same("tell(" + person + ", " + what + ")", x.tell(person, what), -1);
            }
        }
    }

    private static void tellAnotherWhat() {
        Checks.sentence("NONE if there is none such, or for another what.");
        NightShelter x = Shelters.with(2);
        x.pair(0, 1, 1);
        Checks.same("tell(0, 0)", x.tell(0, 0), 20);
        Checks.same("tell(0, 10)", x.tell(0, 10), 1);
        for (int what : new int[] {-1, 11, 12, 32, 256, MIN, MAX}) {
            Checks.same("tell(0, " + what + ")", x.tell(0, what), -1);
        }
    }

    private static void tellPairs() {
        Checks.sentence("9: how it is with how many others APART, 10: TOGETHER.");
        NightShelter x = Shelters.with(24);
        for (int other = 4; other < 24; other++) {
            x.pair(3, other, other < 11 ? 0 : 1);
        }
        Checks.same("APART", x.tell(3, 9), 7);
        Checks.same("TOGETHER", x.tell(3, 10), 13);
        Checks.same("one who is APART: APART", x.tell(4, 9), 1);
        Checks.same("one who is APART: TOGETHER", x.tell(4, 10), 0);
        Checks.same("one who is TOGETHER: APART", x.tell(23, 9), 0);
        Checks.same("one who is TOGETHER: TOGETHER", x.tell(23, 10), 1);
        Checks.same("one in no PAIR", x.tell(0, 9) + x.tell(0, 10), 0);
    }

    private static void counts() {
        Checks.sentence("How many: 0 ROOMS, 1 PEOPLE, 2 PAIRS, 3 HELPERS, 4 evenings that were, 5 LINES, 6 how many "
                + "the ROOMS hold in all, 7 on COLD nights.");
        NightShelter x = Shelters.with(5);
        x.room(6, 3, false, false, 0);
        x.room(1, 0, false, false, 1);
        x.room(2, 1, false, false, 2);
        x.pair(0, 1, 0);
        x.pair(0, 2, 1);
        for (int i = 0; i < 4; i++) {
            x.helper(127, 7);
        }
        for (int i = 0; i < 6; i++) {
            x.evening(1, false);
        }
        Checks.take(x, "bar;".repeat(7));
        int[] due = {3, 5, 2, 4, 6, 7, 9, 13};
        for (int what = 0; what <= 7; what++) {
            Checks.same("count(" + what + ")", x.count(what), due[what]);
        }
    }

    private static void countAnotherWhat() {
        Checks.sentence("NONE for another what.");
        NightShelter x = Shelters.rooms(Shelters.with(1), 1);
        Checks.same("count(0)", x.count(0), 1);
        Checks.same("count(7)", x.count(7), 1);
        for (int what : new int[] {-1, 8, 9, 32, 256, MIN, MAX}) {
            Checks.same("count(" + what + ")", x.count(what), -1);
        }
    }
}
