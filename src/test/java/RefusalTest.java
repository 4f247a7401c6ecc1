import java.util.ArrayList;
import java.util.List;
import java.util.function.Consumer;
import java.util.function.Predicate;
import java.util.function.ToIntFunction;

/**
 * All promises: a call that is refused, or that only asks, leaves everything as it was: each answer, the
 * images, and the evening that comes.
 */
public final class RefusalTest {
    private static final int MIN = Shelters.MIN;
    private static final int MAX = Shelters.MAX;
    private static final int[] NO_PERSON = {-1, 6, 24, 32, MIN, MAX};

    private final Consumer<NightShelter> house;

    private RefusalTest(Consumer<NightShelter> house) {
        this.house = house;
    }

    public static void main(String[] args) {
        RefusalTest small = new RefusalTest(RefusalTest::smallHouse);
        small.wrongNumbersOfRooms();
        small.wrongNumbersOfPeople();
        small.wrongPeople();
        small.wrongPairs();
        small.wrongNumbersOfHelpers();
        small.wrongEnds();
        small.wrongImages();
        small.questions();
        RefusalTest full = new RefusalTest(RefusalTest::fullHouse);
        full.oneTooMany();
        full.questions();
        Checks.close();
    }

    /** Six PEOPLE, two ROOMS, two HELPERS, a TEXT, a FAULT, a tape of 15 bytes, two evenings and image 1. */
    private static void smallHouse(NightShelter x) {
        Shelters.furnish(x, 6);
        x.evening(63, true);
        x.image(1);
        Checks.take(x, "when age<33:add 3;when cold=1:add -1;when here:add 2;");
        Checks.take(x, "bar");
        x.evening(6, false);
        Checks.feed(x, "when dog:add 7;");
    }

    /** As many of everything as there can be, and a tape of 481 bytes. */
    private static void fullHouse(NightShelter x) {
        for (int i = 0; i < 4; i++) {
            x.room(1 + i, i, i == 1, i != 2, i % 3);
        }
        for (int i = 0; i < 24; i++) {
            x.person(30 + i, 1 + i % 2, i % 3 != 2, i % 5 == 3);
        }
        for (int i = 0; i < 20; i++) {
            x.pair(i, i + 2, i % 4 == 0 ? 1 : 0);
        }
        for (int i = 0; i < 8; i++) {
            x.helper(127 - i, 1 + i % 7);
        }
        Checks.take(x, "add 1;".repeat(16));
        x.evening(0x3ff, true);
        x.image(1);
        x.evening(0xffc00, false);
        Checks.feed(x, "add 3;" + " ".repeat(475));
    }

    /** A call that is due to answer NONE. */
    private void none(String call, ToIntFunction<NightShelter> make) {
        refused(call, make, -1);
    }

    /** A call that is due to answer false. */
    private void no(String call, Predicate<NightShelter> make) {
        refused(call, x -> make.test(x) ? 1 : 0, 0);
    }

    private void refused(String call, ToIntFunction<NightShelter> make, int due) {
        NightShelter x = new NightShelter();
        house.accept(x);
        Checks.same(call, make.applyAsInt(x), due);
        changesNothing(call, y -> make.applyAsInt(y));
    }

    private void changesNothing(String call, Consumer<NightShelter> make) {
        Consumer<NightShelter> called = house.andThen(make);
        Answers.same("after " + call, called, house);
        Consumer<NightShelter> goOn = x -> x.evening(0b1011011, true);
        Answers.same("the evening after " + call, called.andThen(goOn), house.andThen(goOn));
        Consumer<NightShelter> goBack = x -> x.again(1);
        Answers.same("the image after " + call, called.andThen(goBack), house.andThen(goBack));
        Consumer<NightShelter> noImages = x -> {
            x.again(0);
            x.again(2);
        };
        Answers.same("no other image after " + call, called.andThen(noImages), house);
    }

    private void wrongNumbersOfRooms() {
        for (int holds : new int[] {0, 7, MIN, MAX}) {
            none("room that holds " + holds, x -> x.room(holds, 1, true, true, 1));
        }
        for (int mats : new int[] {-1, 4, MIN, MAX}) {
            none("room with mats " + mats, x -> x.room(2, mats, true, true, 1));
        }
        for (int kind : new int[] {-1, 3, MIN, MAX}) {
            none("room of kind " + kind, x -> x.room(2, 1, true, true, kind));
        }
    }

    private void wrongNumbersOfPeople() {
        for (int age : new int[] {-1, 121, MIN, MAX}) {
            none("person of age " + age, x -> x.person(age, 1, true, true));
        }
        for (int kind : new int[] {0, 3, MIN, MAX}) {
            none("person of kind " + kind, x -> x.person(30, kind, true, true));
        }
        for (int ill : new int[] {-1, 4, MIN, MAX}) {
            no("ill(0, " + ill + ")", x -> x.ill(0, ill));
        }
        no("bar as it was", x -> x.bar(3, true));
        no("bar no more, as it was", x -> x.bar(0, false));
    }

    private void wrongPeople() {
        for (int person : NO_PERSON) {
            no("ill(" + person + ", 1)", x -> x.ill(person, 1));
            no("bar(" + person + ", true)", x -> x.bar(person, true));
            no("bar(" + person + ", false)", x -> x.bar(person, false));
            for (int i = 0; i <= 2; i++) {
                int how = i;
                no("pair(0, " + person + ", " + how + ")", x -> x.pair(0, person, how));
                no("pair(" + person + ", 1, " + how + ")", x -> x.pair(person, 1, how));
            }
        }
    }

    private void wrongPairs() {
        for (int how : new int[] {-1, 3, MIN, MAX}) {
            no("pair(0, 1, " + how + ")", x -> x.pair(0, 1, how));
            no("pair(0, 2, " + how + ")", x -> x.pair(0, 2, how));
        }
        for (int i = 0; i <= 2; i++) {
            int how = i;
            no("pair(2, 2, " + how + ")", x -> x.pair(2, 2, how));
        }
        no("pair TOGETHER, as it was", x -> x.pair(1, 0, 1));
        no("pair APART, as it was", x -> x.pair(3, 2, 0));
        no("pair none, as it was", x -> x.pair(0, 5, 2));
    }

    private void wrongNumbersOfHelpers() {
        for (int days : new int[] {-1, 128, MIN, MAX}) {
            none("helper on days " + days, x -> x.helper(days, 1));
        }
        for (int nights : new int[] {0, 8, MIN, MAX}) {
            none("helper for nights " + nights, x -> x.helper(127, nights));
        }
    }

    private void wrongEnds() {
        for (int n : new int[] {-1, 16, MIN, MAX}) {
            none("end(" + n + ")", x -> x.end(n));
        }
    }

    private void wrongImages() {
        for (int k : new int[] {-1, 3, MIN, MAX}) {
            no("image(" + k + ")", x -> x.image(k));
            no("again(" + k + ")", x -> x.again(k));
        }
        no("again(0)", x -> x.again(0));
        no("again(2)", x -> x.again(2));
    }

    private void oneTooMany() {
        none("feed behind 481", x -> x.feed(0x23232323, 1, 2, 3, 4));
        none("end(482)", x -> x.end(482));
        none("a fifth ROOM", x -> x.room(6, 3, true, true, 0));
        none("a 25th of the PEOPLE", x -> x.person(50, 2, true, true));
        no("a 21st PAIR, APART", x -> x.pair(0, 1, 0));
        no("a 21st PAIR, TOGETHER", x -> x.pair(23, 0, 1));
        no("a 21st PAIR, none", x -> x.pair(23, 0, 2));
        none("a ninth HELPER", x -> x.helper(127, 7));
        none("eleven at the door", x -> x.evening(0x7ff, true));
        none("all at the door", x -> x.evening(-1, false));
    }

    private void questions() {
        for (int n : new int[] {-1, 0, 1, 3, 5, 7, 8, 23, 24, 32, MIN, MAX}) {
            changesNothing("all questions of " + n, x -> askAll(x, n));
        }
    }

    private static void askAll(NightShelter x, int n) {
        x.points(n, true);
        x.points(n, false);
        x.called(n);
        for (int what = -1; what <= 14; what++) {
            x.told(n, what);
            x.tell(n, what);
            x.duty(n, what);
            x.book(n, what);
            x.fault(what);
            x.count(what);
        }
    }
}
