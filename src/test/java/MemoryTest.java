import com.sun.management.ThreadMXBean;
import java.lang.management.ManagementFactory;
import java.util.function.Consumer;

/**
 * All that a run of 512 calls makes has room among 600,000 objects and 7.3 million fields and elements. What
 * the machine tells are bytes: an element has one at least and an object sixteen, so that as many bytes are
 * never too little.
 */
public final class MemoryTest {
    private static final int CALLS = 512;
    private static final long MOST_BYTES = 7_300_000;
    private static final int BARS = 0x6261723b;

    public static void main(String[] args) {
        measure("text() of an empty tape", MemoryTest::emptyTexts);
        measure("text() of a full tape", MemoryTest::fullTexts);
        measure("evening", MemoryTest::evenings);
        measure("image and again", MemoryTest::images);
        measure("questions", MemoryTest::questions);
        Checks.close();
    }

    private static void measure(String what, Consumer<NightShelter> run) {
        ThreadMXBean threads = (ThreadMXBean) ManagementFactory.getThreadMXBean();
        long before = threads.getCurrentThreadAllocatedBytes();
        run.accept(new NightShelter());
        long made = threads.getCurrentThreadAllocatedBytes() - before;
        Checks.same(what + ": " + made + " bytes are too many", made > MOST_BYTES, false);
    }

    private static void emptyTexts(NightShelter x) {
        for (int i = 0; i < CALLS; i++) {
            x.text();
        }
    }

    private static void fullTexts(NightShelter x) {
        for (int i = 0; i < CALLS; i++) {
            if (i % 26 == 25) {
                x.text();
            } else {
                x.feed(BARS, BARS, BARS, BARS, BARS);
            }
        }
    }

    private static void evenings(NightShelter x) {
        Shelters.furnish(x, 24);
        x.room(2, 0, false, true, 0);
        x.room(2, 3, false, true, 0);
        for (int i = 0; i < CALLS - 50; i++) {
            x.evening(0x3ff << i % 15, i % 2 == 0);
        }
    }

    private static void images(NightShelter x) {
        Shelters.furnish(x, 24);
        for (int i = 0; i < (CALLS - 50) / 3; i++) {
            x.image(i % 3);
            x.evening(0x3ff << i % 15, i % 2 == 0);
            x.again(i % 3);
        }
    }

    private static void questions(NightShelter x) {
        Shelters.furnish(x, 24);
        x.evening(0x3ff, true);
        for (int i = 0; i < (CALLS - 50) / 7; i++) {
            x.points(i % 24, true);
            x.told(i % 24, i % 3);
            x.tell(i % 24, i % 11);
            x.duty(i % 2, i % 2);
            x.book(0, i % 14);
            x.count(i % 8);
            x.called(i % 2);
        }
    }
}
