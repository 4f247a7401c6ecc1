import java.util.List;
import java.util.function.Consumer;

/** Promises 20 and 21, sentence by sentence at its boundary. */
public final class ImageEdgesTest {
    private static final int[] NO_IMAGES = {-1, 3, 4, 32, 256, Shelters.MIN, Shelters.MAX};

    public static void main(String[] args) {
        imagesZeroToTwo();
        againOfNone();
        allThatIsTold();
        butTheTapeAndTheFault();
        asItIsNow();
        imagesAreNoPartOfImages();
        refusedImageKeepsTheImages();
        againAndAgain();
        whatComesAfterAgain();
        Checks.close();
    }

    /** A shelter of which every answer has something to say. */
    private static void house(NightShelter x) {
        Shelters.furnish(x, 5);
        Checks.take(x, "when age<33:add 3;when cold=1:add -1;when here:add 2;");
        x.evening(31, true);
        x.evening(6, false);
    }

    /** One change for each thing that is told. */
    private static List<Consumer<NightShelter>> changes() {
        return List.of(
                x -> x.room(6, 3, true, true, 2),
                x -> x.person(60, 1, false, false),
                x -> x.ill(4, 0),
                x -> x.ill(0, 3),
                x -> x.bar(3, false),
                x -> x.bar(0, true),
                x -> x.pair(0, 1, 2),
                x -> x.pair(0, 1, 0),
                x -> x.pair(2, 3, 1),
                x -> x.pair(1, 4, 0),
                x -> x.helper(64, 7),
                x -> x.evening(31, false),
                x -> x.evening(0, true),
                x -> x.evening(16, false));
    }

    private static void imagesZeroToTwo() {
        Checks.sentence("Image k (0 .. 2) is all that is told but the tape and the FAULT, as it is now: true; false for "
                + "another k.");
        for (int k = 0; k <= 2; k++) {
            Checks.same("image(" + k + ")", new NightShelter().image(k), true);
            NightShelter x = new NightShelter();
            Checks.same("image(" + k + ")", x.image(k), true);
            Checks.same("image(" + k + ") once more", x.image(k), true);
            for (int other = 0; other <= 2; other++) {
                Checks.same("again(" + other + ") with image " + k, x.again(other), other == k);
            }
        }
        for (int k : NO_IMAGES) {
            NightShelter x = new NightShelter();
            Checks.same("image(" + k + ")", x.image(k), false);
            for (int other = 0; other <= 2; other++) {
                Checks.same("again(" + other + ")", x.again(other), false);
            }
        }
    }

    private static void againOfNone() {
        Checks.sentence("All that is as image k has it: true; false if there is none such.");
        NightShelter x = new NightShelter();
        for (int k = 0; k <= 2; k++) {
            Checks.same("again(" + k + ") ahead of its image", x.again(k), false);
            x.image(k);
            Checks.same("again(" + k + ")", x.again(k), true);
        }
        for (int k : NO_IMAGES) {
            Checks.same("again(" + k + ")", x.again(k), false);
        }
        for (int k = -1; k <= 3; k++) {
            int refused = k;
            if (k != 1) {
                Consumer<NightShelter> due = y -> {
                    y.image(1);
                    house(y);
                };
                Answers.same("after again(" + k + "), of which there is none", y -> {
                    due.accept(y);
                    y.again(refused);
                }, due);
            }
        }
    }

    private static void allThatIsTold() {
        Checks.sentence("All that is as image k has it: true; false if there is none such.");
        int number = 0;
        for (Consumer<NightShelter> change : changes()) {
            int k = number % 3;
            Answers.same("again after change " + number, x -> {
                house(x);
                x.image(k);
                change.accept(x);
                x.again(k);
            }, ImageEdgesTest::house);
            number++;
        }
        Answers.same("again after all changes and a TEXT", x -> {
            house(x);
            x.image(2);
            changes().forEach(change -> change.accept(x));
            Checks.take(x, "add 9;");
            x.again(2);
        }, ImageEdgesTest::house);
        Answers.same("back to a new object", x -> {
            x.image(0);
            house(x);
            x.again(0);
        }, x -> {
        });
    }

    private static void butTheTapeAndTheFault() {
        Checks.sentence("Image k (0 .. 2) is all that is told but the tape and the FAULT");
        NightShelter x = Shelters.with(1);
        Checks.take(x, "add 5;add 1;");
        Checks.feed(x, "add 9;");
        x.image(0);
        Checks.same("the tape is taken", x.text(), 1);
        Checks.take(x, "  #");
        Checks.feed(x, "add 2");
        Checks.same("again(0)", x.again(0), true);
        Checks.same("the FAULT is of the latest text()", x.fault(0), 1);
        Checks.same("its place, too", x.fault(1), 2);
        Checks.same("the tape is that of now", x.end(6), -1);
        Checks.same("its bytes", x.end(5), 5);
        Checks.same("THE TEXT is that of the image", x.points(0, false), 6);
        Checks.same("its LINES", x.count(5), 2);
        Checks.same("the tape has no LINE", x.text(), -1);
        Checks.same("but its end at 5", x.fault(1), 5);
        x.image(1);
        x.text();
        x.again(1);
        Checks.same("no FAULT comes back", x.fault(0), 0);
        Checks.same("no place comes back", x.fault(1), -1);
    }

    private static void asItIsNow() {
        Checks.sentence("as it is now");
        int number = 0;
        for (Consumer<NightShelter> change : changes()) {
            int k = number % 3;
            Answers.same("image ahead of change " + number + " and after it", x -> {
                house(x);
                x.image(k);
                change.accept(x);
                x.image(k);
                changes().forEach(other -> other.accept(x));
                x.again(k);
            }, x -> {
                house(x);
                change.accept(x);
            });
            number++;
        }
    }

    private static void imagesAreNoPartOfImages() {
        Checks.sentence("All that is as image k has it");
        NightShelter x = new NightShelter();
        x.image(0);
        x.person(30, 1, true, true);
        x.image(1);
        x.person(31, 1, true, true);
        x.image(2);
        for (int k : new int[] {0, 2, 1, 1, 0, 2}) {
            Checks.same("again(" + k + ")", x.again(k), true);
            Checks.same("PEOPLE of image " + k, x.count(1), k);
        }
    }

    private static void refusedImageKeepsTheImages() {
        Checks.sentence("false for another k");
        for (int k : NO_IMAGES) {
            NightShelter x = new NightShelter();
            for (int i = 0; i <= 2; i++) {
                x.image(i);
                x.person(30, 1, true, true);
            }
            Checks.same("image(" + k + ")", x.image(k), false);
            Checks.same("again(" + k + ")", x.again(k), false);
            Checks.same("PEOPLE now", x.count(1), 3);
            for (int i = 0; i <= 2; i++) {
                x.again(i);
                Checks.same("PEOPLE of image " + i, x.count(1), i);
            }
        }
    }

    private static void againAndAgain() {
        Checks.sentence("All that is as image k has it: true; false if there is none such.");
        Answers.same("what is done after again is not in the image", x -> {
            house(x);
            x.image(0);
            for (int i = 0; i < 3; i++) {
                changes().forEach(change -> change.accept(x));
                x.again(0);
            }
        }, ImageEdgesTest::house);
    }

    private static void whatComesAfterAgain() {
        Checks.sentence("All that is as image k has it");
        int number = 0;
        for (Consumer<NightShelter> change : changes()) {
            Answers.same("change " + number + " after again", x -> {
                house(x);
                x.image(1);
                changes().forEach(other -> other.accept(x));
                x.again(1);
                change.accept(x);
                x.evening(31, true);
            }, x -> {
                house(x);
                change.accept(x);
                x.evening(31, true);
            });
            number++;
        }
    }
}
