/** Shelters that several tests begin with. */
final class Shelters {
    static final int MIN = Integer.MIN_VALUE;
    static final int MAX = Integer.MAX_VALUE;
    static final int NOBODY = -2000000000;

    private Shelters() {
    }

    /** A shelter with so many people of KIND 1 who climb and have no DOG, 20 years old and one more each. */
    static NightShelter with(int people) {
        NightShelter x = new NightShelter();
        for (int i = 0; i < people; i++) {
            x.person(20 + i, 1, true, false);
        }
        return x;
    }

    /** Adds ROOMS that all may go to; each holds so many, without mats. */
    static NightShelter rooms(NightShelter x, int... holds) {
        for (int h : holds) {
            x.room(h, 0, false, true, 0);
        }
        return x;
    }

    /** Two ROOMS, so many PEOPLE (5 at least), an ILL, one who is BARRED, two PAIRS and two HELPERS. */
    static void furnish(NightShelter x, int people) {
        x.room(2, 1, false, true, 0);
        x.room(1, 0, true, false, 2);
        for (int i = 0; i < people; i++) {
            x.person(30 + i, 1 + i % 2, i != 2, i == 3);
        }
        x.pair(0, 1, 1);
        x.pair(2, 3, 0);
        x.ill(4, 2);
        x.bar(3, true);
        x.helper(127, 3);
        x.helper(0b0000011, 1);
    }

    static int all(int people) {
        return (1 << people) - 1;
    }

    static void told(NightShelter x, int what, int... due) {
        for (int person = 0; person < due.length; person++) {
            Checks.same("told(" + person + ", " + what + ")", x.told(person, what), due[person]);
        }
    }

    static void tell(NightShelter x, int what, int... due) {
        for (int person = 0; person < due.length; person++) {
            Checks.same("tell(" + person + ", " + what + ")", x.tell(person, what), due[person]);
        }
    }

    static void called(NightShelter x, boolean... due) {
        for (int helper = 0; helper < due.length; helper++) {
            Checks.same("called(" + helper + ")", x.called(helper), due[helper]);
        }
    }
}
