/** Promises 20 and 21: images, and all that is as they have it. */
public final class ImageTest {
    public static void main(String[] args) {
        allComesBack();
        imagesAreTheirOwn();
        otherHistories();
        Checks.close();
    }

    private static void furnish(NightShelter x) {
        x.room(2, 1, false, true, 0);
        x.person(30, 1, true, false);
        x.person(40, 2, false, true);
        x.person(50, 1, true, false);
        x.pair(0, 1, 1);
        x.ill(2, 2);
        x.helper(127, 3);
        Checks.take(x, "when age<45:add 3;add 1;");
        x.evening(7, true);
    }

    private static void changeAndComeBack(NightShelter x) {
        furnish(x);
        x.image(1);
        x.room(6, 3, true, true, 2);
        x.person(60, 1, false, false);
        x.pair(0, 1, 2);
        x.pair(1, 2, 0);
        x.ill(2, 0);
        x.bar(1, true);
        x.helper(1, 1);
        Checks.take(x, "add 9;");
        x.evening(15, false);
        x.evening(1, false);
        Checks.same("again(1)", x.again(1), true);
    }

    private static void allComesBack() {
        Answers.same("after again", ImageTest::changeAndComeBack, ImageTest::furnish);
        Answers.same("an evening after again", x -> {
            changeAndComeBack(x);
            x.evening(7, false);
        }, x -> {
            furnish(x);
            x.evening(7, false);
        });
        NightShelter x = new NightShelter();
        changeAndComeBack(x);
        Checks.same("pair after again", x.pair(0, 1, 1), false);
        Checks.same("room after again", x.room(1, 0, false, false, 0), 1);
        Checks.same("person after again", x.person(1, 1, true, true), 3);
        Checks.same("that is new", x.tell(3, 4) + x.tell(3, 2), 0);
    }

    private static void imagesAreTheirOwn() {
        NightShelter x = new NightShelter();
        furnish(x);
        x.image(0);
        x.person(60, 1, true, false);
        x.image(1);
        x.person(61, 1, true, false);
        Checks.same("image 2 was never made", x.again(2), false);
        x.again(0);
        Checks.same("image 0", x.count(1), 3);
        x.ill(0, 3);
        x.again(1);
        Checks.same("image 1", x.count(1), 4);
        Checks.same("image 1 is as it was", x.tell(0, 2), 0);
        x.again(0);
        Checks.same("image 0 is as it was", x.tell(0, 2), 0);
        x.bar(0, true);
        x.image(0);
        x.bar(0, false);
        x.again(0);
        Checks.same("image 0 anew", x.tell(0, 6), 1);
        x.again(1);
        Checks.same("image 1 still", x.tell(0, 6), 0);
    }

    /** Two shelters that have nothing alike, as two images of one object. */
    private static void twoShelters(NightShelter x) {
        x.image(2);
        furnishOneWay(x);
        x.image(0);
        x.again(2);
        furnishOtherWay(x);
        x.image(1);
    }

    private static void otherHistories() {
        Answers.same("a new object", x -> {
            twoShelters(x);
            x.again(2);
        }, x -> {
        });
        Answers.same("the first shelter", x -> {
            twoShelters(x);
            x.again(0);
        }, ImageTest::furnishOneWay);
        Answers.same("the first shelter's next evening", x -> {
            twoShelters(x);
            x.again(0);
            x.evening(15, true);
        }, x -> {
            furnishOneWay(x);
            x.evening(15, true);
        });
        Answers.same("the other shelter's next evening", x -> {
            twoShelters(x);
            x.again(0);
            x.evening(15, true);
            x.again(1);
            x.evening(15, false);
        }, x -> {
            furnishOtherWay(x);
            x.evening(15, false);
        });
    }

    private static void furnishOneWay(NightShelter x) {
        x.room(1, 3, true, false, 1);
        x.room(2, 0, false, true, 2);
        x.person(30, 1, true, false);
        x.person(31, 2, false, true);
        x.person(32, 2, false, true);
        x.person(33, 1, true, true);
        x.ill(3, 1);
        x.pair(0, 3, 0);
        x.helper(0b0101011, 1);
        Checks.take(x, "when climbs:add 4;");
        x.evening(15, false);
    }

    private static void furnishOtherWay(NightShelter x) {
        x.room(2, 2, false, true, 2);
        x.room(1, 3, true, false, 1);
        x.person(80, 2, false, true);
        x.person(81, 1, true, false);
        x.person(82, 1, true, false);
        x.person(83, 2, false, true);
        x.ill(0, 2);
        x.pair(1, 2, 1);
        x.bar(3, true);
        x.helper(0b1010100, 5);
        x.helper(0b1111111, 2);
        Checks.take(x, "when dog:add 4;last;");
        x.evening(9, true);
        x.evening(15, true);
    }
}
