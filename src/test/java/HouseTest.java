/** Promises 6 to 11, 16 and 19: ROOMS, PEOPLE, PAIRS, HELPERS, and what is told of them. */
public final class HouseTest {
    private static final int MIN = Integer.MIN_VALUE;
    private static final int MAX = Integer.MAX_VALUE;

    public static void main(String[] args) {
        rooms();
        roomsWithWrongNumbers();
        people();
        peopleWithWrongNumbers();
        ills();
        bars();
        pairs();
        twentyPairs();
        helpers();
        helpersWithWrongNumbers();
        tellsOfNobody();
        counts();
        Checks.close();
    }

    private static void rooms() {
        NightShelter x = new NightShelter();
        Checks.same("room 0", x.room(1, 0, false, false, 0), 0);
        Checks.same("room 1", x.room(6, 3, true, true, 2), 1);
        Checks.same("room 2", x.room(3, 1, true, false, 1), 2);
        Checks.same("room 3", x.room(2, 2, false, true, 0), 3);
        Checks.same("room 4", x.room(2, 2, false, true, 0), -1);
        Checks.same("ROOMS", x.count(0), 4);
        Checks.same("hold in all", x.count(6), 12);
        Checks.same("on COLD nights", x.count(7), 18);
    }

    private static void roomsWithWrongNumbers() {
        NightShelter x = new NightShelter();
        for (int holds : new int[] {0, 7, -1, MIN, MAX}) {
            Checks.same("room that holds " + holds, x.room(holds, 0, true, true, 0), -1);
        }
        for (int mats : new int[] {-1, 4, MIN, MAX}) {
            Checks.same("room with mats " + mats, x.room(1, mats, true, true, 0), -1);
        }
        for (int kind : new int[] {-1, 3, MIN, MAX}) {
            Checks.same("room of kind " + kind, x.room(1, 0, true, true, kind), -1);
        }
        Checks.same("no ROOMS", x.count(0), 0);
        Checks.same("then a good one", x.room(6, 3, true, true, 2), 0);
    }

    private static void people() {
        NightShelter x = new NightShelter();
        Checks.same("person 0", x.person(0, 1, true, false), 0);
        Checks.same("person 1", x.person(120, 2, false, true), 1);
        int[][] due = {{0, 1, 0, 0, 0, -1, 0, 1, 0, 0, 0}, {120, 2, 0, 0, 0, -1, 0, 0, 1, 0, 0}};
        for (int person = 0; person < 2; person++) {
            for (int what = 0; what < 11; what++) {
                Checks.same("tell(" + person + ", " + what + ")", x.tell(person, what), due[person][what]);
            }
        }
        for (int i = 2; i < 24; i++) {
            Checks.same("person " + i, x.person(i, 1, true, true), i);
        }
        Checks.same("person 24", x.person(24, 1, true, true), -1);
        Checks.same("PEOPLE", x.count(1), 24);
    }

    private static void peopleWithWrongNumbers() {
        NightShelter x = new NightShelter();
        for (int age : new int[] {-1, 121, MIN, MAX}) {
            Checks.same("person of age " + age, x.person(age, 1, true, true), -1);
        }
        for (int kind : new int[] {0, 3, -1, MIN, MAX}) {
            Checks.same("person of kind " + kind, x.person(30, kind, true, true), -1);
        }
        Checks.same("no PEOPLE", x.count(1), 0);
    }

    private static void ills() {
        NightShelter x = new NightShelter();
        Checks.same("nobody is ill", x.ill(0, 1), false);
        x.person(30, 1, true, true);
        for (int ill = 3; ill >= 0; ill--) {
            Checks.same("ill(0, " + ill + ")", x.ill(0, ill), true);
            Checks.same("ill(0, " + ill + ") once more", x.ill(0, ill), true);
            Checks.same("tell ILL " + ill, x.tell(0, 2), ill);
        }
        for (int ill : new int[] {-1, 4, MIN, MAX}) {
            Checks.same("ill(0, " + ill + ")", x.ill(0, ill), false);
        }
        for (int person : new int[] {-1, 1, 24, MIN, MAX}) {
            Checks.same("ill(" + person + ", 1)", x.ill(person, 1), false);
        }
        Checks.same("still well", x.tell(0, 2), 0);
    }

    private static void bars() {
        NightShelter x = new NightShelter();
        Checks.same("nobody is barred", x.bar(0, true), false);
        x.person(30, 1, true, true);
        x.person(31, 1, true, true);
        Checks.same("not barred, as it was", x.bar(0, false), false);
        Checks.same("barred", x.bar(0, true), true);
        Checks.same("barred, as it was", x.bar(0, true), false);
        Checks.same("tell BARRED", x.tell(0, 6), 1);
        Checks.same("tell of the other", x.tell(1, 6), 0);
        Checks.same("no more", x.bar(0, false), true);
        Checks.same("tell no more", x.tell(0, 6), 0);
        for (int person : new int[] {-1, 2, MIN, MAX}) {
            Checks.same("bar(" + person + ")", x.bar(person, true), false);
            Checks.same("bar(" + person + ") no more", x.bar(person, false), false);
        }
    }

    private static void pairs() {
        NightShelter x = new NightShelter();
        Checks.same("pair of nobody", x.pair(0, 1, 0), false);
        for (int i = 0; i < 3; i++) {
            x.person(30, 1, true, true);
        }
        Checks.same("none, as it was", x.pair(0, 1, 2), false);
        Checks.same("APART", x.pair(0, 1, 0), true);
        Checks.same("APART, as it was", x.pair(0, 1, 0), false);
        Checks.same("APART, as it was, turned round", x.pair(1, 0, 0), false);
        Checks.same("one PAIR", x.count(2), 1);
        Checks.same("TOGETHER now", x.pair(1, 0, 1), true);
        Checks.same("still one PAIR", x.count(2), 1);
        Checks.same("not APART any more", x.tell(0, 9) + x.tell(1, 9), 0);
        Checks.same("0 is TOGETHER with", x.tell(0, 10), 1);
        Checks.same("1 is TOGETHER with", x.tell(1, 10), 1);
        x.pair(1, 2, 0);
        x.pair(2, 0, 1);
        Checks.same("2 is APART from", x.tell(2, 9), 1);
        Checks.same("2 is TOGETHER with", x.tell(2, 10), 1);
        Checks.same("0 is TOGETHER with two", x.tell(0, 10), 2);
        Checks.same("three PAIRS", x.count(2), 3);
        Checks.same("none any more", x.pair(0, 1, 2), true);
        Checks.same("none, as it was", x.pair(1, 0, 2), false);
        Checks.same("two PAIRS", x.count(2), 2);
        Checks.same("one alone", x.pair(1, 1, 0), false);
        for (int who : new int[] {-1, 3, 32, MIN, MAX}) {
            Checks.same("pair(0, " + who + ")", x.pair(0, who, 0), false);
            Checks.same("pair(" + who + ", 0)", x.pair(who, 0, 0), false);
        }
        for (int how : new int[] {-1, 3, MIN, MAX}) {
            Checks.same("pair how " + how, x.pair(0, 1, how), false);
        }
        Checks.same("two PAIRS still", x.count(2), 2);
    }

    private static void twentyPairs() {
        NightShelter x = new NightShelter();
        for (int i = 0; i < 24; i++) {
            x.person(30, 1, true, true);
        }
        for (int i = 1; i <= 20; i++) {
            Checks.same("PAIR " + i, x.pair(0, i, i % 2), true);
        }
        Checks.same("PAIR 21", x.pair(0, 21, 0), false);
        Checks.same("PAIR 21, turned round", x.pair(22, 0, 1), false);
        Checks.same("20 PAIRS", x.count(2), 20);
        Checks.same("one of the 20 changes", x.pair(0, 1, 0), true);
        Checks.same("APART from", x.tell(0, 9), 11);
        Checks.same("TOGETHER with", x.tell(0, 10), 9);
        Checks.same("one of the 20 goes", x.pair(20, 0, 2), true);
        Checks.same("19 PAIRS", x.count(2), 19);
        Checks.same("there is place again", x.pair(22, 23, 1), true);
        Checks.same("20 PAIRS again", x.count(2), 20);
    }

    private static void helpers() {
        NightShelter x = new NightShelter();
        for (int i = 0; i < 8; i++) {
            Checks.same("helper " + i, x.helper(i == 0 ? 127 : i, i == 0 ? 7 : i), i);
            Checks.same("nights in all of " + i, x.duty(i, 0), 0);
            Checks.same("nights left of " + i, x.duty(i, 1), i == 0 ? 7 : i);
        }
        Checks.same("helper 8", x.helper(1, 1), -1);
        Checks.same("HELPERS", x.count(3), 8);
    }

    private static void helpersWithWrongNumbers() {
        NightShelter x = new NightShelter();
        for (int days : new int[] {-1, 128, MIN, MAX}) {
            Checks.same("helper on days " + days, x.helper(days, 1), -1);
        }
        for (int nights : new int[] {0, 8, -1, MIN, MAX}) {
            Checks.same("helper for nights " + nights, x.helper(1, nights), -1);
        }
        Checks.same("no HELPERS", x.count(3), 0);
        x.helper(1, 1);
        for (int helper : new int[] {-1, 1, 8, MIN, MAX}) {
            Checks.same("duty(" + helper + ", 0)", x.duty(helper, 0), -1);
            Checks.same("called(" + helper + ")", x.called(helper), false);
        }
        for (int what : new int[] {-1, 2, MIN, MAX}) {
            Checks.same("duty(0, " + what + ")", x.duty(0, what), -1);
        }
    }

    private static void tellsOfNobody() {
        NightShelter x = new NightShelter();
        x.person(30, 1, true, true);
        for (int person : new int[] {-1, 1, 24, MIN, MAX}) {
            for (int what = 0; what <= 10; what++) {
                Checks.same("tell(" + person + ", " + what + ")", x.tell(person, what), -1);
            }
        }
        for (int what : new int[] {-1, 11, MIN, MAX}) {
            Checks.same("tell(0, " + what + ")", x.tell(0, what), -1);
        }
    }

    private static void counts() {
        NightShelter x = new NightShelter();
        x.room(3, 2, false, false, 0);
        x.person(1, 1, true, true);
        x.person(2, 1, true, true);
        x.pair(0, 1, 0);
        x.helper(1, 1);
        x.helper(1, 1);
        x.helper(1, 1);
        x.evening(0, true);
        Checks.take(x, "bar;last;add 1;add 2;");
        int[] due = {1, 2, 1, 3, 1, 4, 3, 5};
        for (int what = 0; what < due.length; what++) {
            Checks.same("count(" + what + ")", x.count(what), due[what]);
        }
        for (int what : new int[] {-1, 8, MIN, MAX}) {
            Checks.same("count(" + what + ")", x.count(what), -1);
        }
    }
}
