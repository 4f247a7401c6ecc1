/** Promises 20 and 21: images, and all that is as they have it. */
public final class ImageTest {
    public static void main(String[] args) {
        wrongImages();
        allComesBack();
        tapeAndFaultStay();
        imagesAreTheirOwn();
        otherHistories();
        Checks.close();
    }

    private static void wrongImages() {
        NightShelter x = new NightShelter();
        for (int k : new int[] {-1, 3, Integer.MIN_VALUE, Integer.MAX_VALUE}) {
            Checks.same("image(" + k + ")", x.image(k), false);
            Checks.same("again(" + k + ")", x.again(k), false);
        }
        for (int k = 0; k < 3; k++) {
            Checks.same("again(" + k + ") ahead", x.again(k), false);
            Checks.same("image(" + k + ")", x.image(k), true);
            Checks.same("again(" + k + ")", x.again(k), true);
        }
    }

    private static NightShelter furnished() {
        NightShelter x = new NightShelter();
        x.room(2, 1, false, true, 0);
        x.person(30, 1, true, false);
        x.person(40, 2, false, true);
        x.person(50, 1, true, false);
        x.pair(0, 1, 1);
        x.ill(2, 2);
        x.helper(127, 3);
        Checks.take(x, "when age<45:add 3;add 1;");
        x.evening(7, true);
        return x;
    }

    /** Every answer that tells of what an image keeps. */
    private static int[] answers(NightShelter x) {
        int[] found = new int[2000];
        int size = 0;
        for (int what = -1; what < 15; what++) {
            found[size++] = x.count(what);
            for (int i = -1; i < 6; i++) {
                found[size++] = x.tell(i, what);
                found[size++] = x.told(i, what);
                found[size++] = x.duty(i, what);
                found[size++] = x.book(i, what);
            }
        }
        for (int i = -1; i < 6; i++) {
            found[size++] = x.points(i, true);
            found[size++] = x.points(i, false);
            found[size++] = x.called(i) ? 1 : 0;
        }
        return found;
    }

    private static void sameAnswers(String when, int[] got, int[] due) {
        for (int i = 0; i < due.length; i++) {
            Checks.same(when + ", answer " + i, got[i], due[i]);
        }
    }

    private static void allComesBack() {
        NightShelter x = furnished();
        int[] due = answers(x);
        x.image(1);
        x.room(6, 3, true, true, 2);
        x.person(60, 1, false, false);
        x.pair(0, 1, 2);
        x.pair(1, 2, 0);
        x.ill(2, 0);
        x.bar(1, true);
        x.helper(1, 1);
        Checks.take(x, "add 9;");
        x.evening(15, false);
        x.evening(1, false);
        Checks.same("again(1)", x.again(1), true);
        sameAnswers("after again", answers(x), due);
        NightShelter y = furnished();
        x.evening(7, false);
        y.evening(7, false);
        sameAnswers("an evening after again", answers(x), answers(y));
        Checks.same("pair after again", x.pair(0, 1, 1), false);
        Checks.same("room after again", x.room(1, 0, false, false, 0), 1);
        Checks.same("person after again", x.person(1, 1, true, true), 3);
        Checks.same("that is new", x.tell(3, 4) + x.tell(3, 2), 0);
    }

    private static void tapeAndFaultStay() {
        NightShelter x = furnished();
        x.image(0);
        Checks.take(x, "ad");
        x.feed(0, 0, 0, 0, 0);
        x.again(0);
        Checks.same("the FAULT stays", x.fault(0), 1);
        Checks.same("its place stays", x.fault(1), 0);
        Checks.same("the tape stays", x.end(20), 20);
        x.image(2);
        x.end(5);
        x.again(2);
        Checks.same("the tape is not in an image", x.end(6), -1);
        Checks.same("the TEXT is", x.count(5), 2);
    }

    private static void imagesAreTheirOwn() {
        NightShelter x = furnished();
        x.image(0);
        x.person(60, 1, true, false);
        x.image(1);
        x.person(61, 1, true, false);
        Checks.same("image 2 was never made", x.again(2), false);
        x.again(0);
        Checks.same("image 0", x.count(1), 3);
        x.ill(0, 3);
        x.again(1);
        Checks.same("image 1", x.count(1), 4);
        Checks.same("image 1 is as it was", x.tell(0, 2), 0);
        x.again(0);
        Checks.same("image 0 is as it was", x.tell(0, 2), 0);
        x.bar(0, true);
        x.image(0);
        x.bar(0, false);
        x.again(0);
        Checks.same("image 0 anew", x.tell(0, 6), 1);
        x.again(1);
        Checks.same("image 1 still", x.tell(0, 6), 0);
    }

    /** Two shelters that have nothing alike, as two images of one object. */
    private static void otherHistories() {
        NightShelter x = new NightShelter();
        x.image(2);
        furnishOneWay(x);
        int[] first = answers(x);
        x.image(0);
        x.again(2);
        sameAnswers("a new object", answers(x), answers(new NightShelter()));
        furnishOtherWay(x);
        int[] second = answers(x);
        x.image(1);
        x.again(0);
        sameAnswers("the first shelter", answers(x), first);
        NightShelter y = new NightShelter();
        furnishOneWay(y);
        x.evening(15, true);
        y.evening(15, true);
        sameAnswers("the first shelter's next evening", answers(x), answers(y));
        x.again(1);
        sameAnswers("the other shelter", answers(x), second);
        NightShelter z = new NightShelter();
        furnishOtherWay(z);
        x.evening(15, false);
        z.evening(15, false);
        sameAnswers("the other shelter's next evening", answers(x), answers(z));
    }

    private static void furnishOneWay(NightShelter x) {
        x.room(1, 3, true, false, 1);
        x.room(2, 0, false, true, 2);
        x.person(30, 1, true, false);
        x.person(31, 2, false, true);
        x.person(32, 2, false, true);
        x.person(33, 1, true, true);
        x.ill(3, 1);
        x.pair(0, 3, 0);
        x.helper(0b0101011, 1);
        Checks.take(x, "when climbs:add 4;");
        x.evening(15, false);
    }

    private static void furnishOtherWay(NightShelter x) {
        x.room(2, 2, false, true, 2);
        x.room(1, 3, true, false, 1);
        x.person(80, 2, false, true);
        x.person(81, 1, true, false);
        x.person(82, 1, true, false);
        x.person(83, 2, false, true);
        x.ill(0, 2);
        x.pair(1, 2, 1);
        x.bar(3, true);
        x.helper(0b1010100, 5);
        x.helper(0b1111111, 2);
        Checks.take(x, "when dog:add 4;last;");
        x.evening(9, true);
        x.evening(15, true);
    }
}
