import java.util.ArrayList;
import java.util.List;
import java.util.Random;
import java.util.function.Consumer;
import java.util.function.Predicate;
import java.util.function.ToIntFunction;

/** All promises: random runs of calls, with every answer beside that of PlainShelter. */
public final class RandomRunsTest {
    private static final String[] WORDS = {"age", "kind", "ill", "nights", "turned", "cold", "day", "dog", "climbs",
        "here", "when", "and", "not", "add", "bar", "last", "ad", "bars", ":", ";", "<", ">", "=", "-", "0", "1", "2",
        "18", "45", "9999", "12345", " ", "\n", "#", "A", ""};

    /* An object is good for 512 calls; what is left of them is for the questions. */
    private static final int MOST_CHANGES = 380;
    private static final int QUESTIONS_AN_OBJECT = 120;

    private final Random random;
    private final NightShelter x = new NightShelter();
    private final PlainShelter y = new PlainShelter();
    private final List<Consumer<NightShelter>> changes = new ArrayList<>();
    private final String run;
    private final int care;
    private NightShelter asked;
    private int questions;

    private RandomRunsTest(long seed) {
        random = new Random(seed);
        run = "run " + seed + ": ";
        care = random.nextInt(4);
    }

    public static void main(String[] args) {
        int runs = args.length > 0 ? Integer.parseInt(args[0]) : 400;
        for (int seed = 0; seed < runs; seed++) {
            new RandomRunsTest(seed).go();
        }
        Checks.close();
    }

    private void go() {
        begin();
        for (int i = 0; i < 60 && changes.size() < MOST_CHANGES - 30; i++) {
            step();
            look();
        }
        lookAtAll();
    }

    /** Makes a call that may change something, and keeps it for the objects that are asked. */
    private void change(String call, ToIntFunction<NightShelter> make, int due) {
        changes.add(make::applyAsInt);
        asked = null;
        Checks.same(run + call, make.applyAsInt(x), due);
    }

    private void changeBool(String call, Predicate<NightShelter> make, boolean due) {
        change(call, shelter -> make.test(shelter) ? 1 : 0, due ? 1 : 0);
    }

    /** Asks an object that went through the same changes, a fresh one ahead of its 512th call. */
    private void ask(String call, ToIntFunction<NightShelter> question, int due) {
        if (asked == null || questions == QUESTIONS_AN_OBJECT) {
            asked = new NightShelter();
            questions = 0;
            changes.forEach(made -> made.accept(asked));
        }
        questions++;
        Checks.same(run + call, question.applyAsInt(asked), due);
    }

    private void begin() {
        int rooms = random.nextInt(5);
        for (int i = 0; i < rooms; i++) room();
        int people = random.nextInt(25);
        for (int i = 0; i < people; i++) person();
        int pairs = random.nextInt(21);
        for (int i = 0; i < pairs; i++) pair();
        int helpers = random.nextInt(9);
        for (int i = 0; i < helpers; i++) helper();
        if (random.nextInt(3) > 0) text(goodText());
    }

    private void step() {
        switch (random.nextInt(24)) {
            case 0 -> room();
            case 1 -> person();
            case 2 -> pair();
            case 3 -> helper();
            case 4 -> bar();
            case 5, 6 -> ill();
            case 7 -> text(goodText());
            case 8 -> text(anyText());
            case 9 -> image();
            case 10 -> again();
            case 11 -> {
                int n = number(-2, 600);
                change("end(" + n + ")", z -> z.end(n), y.end(n));
            }
            case 12 -> {
                int a = random.nextInt();
                change("feed", z -> z.feed(a, ~a, a * 3, a * 5, a * 7), y.feed(a, ~a, a * 3, a * 5, a * 7));
            }
            default -> evening();
        }
    }

    /** Mostly from least to most, at times a little outside, seldom anything. */
    private int number(int least, int most) {
        int luck = random.nextInt(100);
        if (luck == 0) return random.nextInt();
        if (luck < 4) return random.nextBoolean() ? least - 1 : most + 1;
        return least + random.nextInt(most - least + 1);
    }

    private boolean often() {
        return random.nextInt(5) > 0;
    }

    private void room() {
        int holds = number(1, care == 0 ? 2 : 6);
        int mats = number(0, 3);
        boolean stairs = !often();
        boolean dogs = often();
        int kind = often() ? 0 : number(0, 2);
        change("room(" + holds + ", " + mats + ", " + stairs + ", " + dogs + ", " + kind + ")",
                z -> z.room(holds, mats, stairs, dogs, kind), y.room(holds, mats, stairs, dogs, kind));
    }

    private void person() {
        int age = number(0, 120);
        int kind = number(1, 2);
        boolean climbs = often();
        boolean dog = !often();
        change("person(" + age + ", " + kind + ", " + climbs + ", " + dog + ")",
                z -> z.person(age, kind, climbs, dog), y.person(age, kind, climbs, dog));
    }

    private int somebody() {
        return number(0, Math.max(0, y.count(1) - 1));
    }

    private void pair() {
        int a = somebody();
        int b = somebody();
        int how = random.nextInt(care + 2) > 0 ? 0 : number(0, 2);
        changeBool("pair(" + a + ", " + b + ", " + how + ")", z -> z.pair(a, b, how), y.pair(a, b, how));
    }

    private void helper() {
        int days = number(0, 127);
        int nights = number(1, 7);
        change("helper(" + days + ", " + nights + ")", z -> z.helper(days, nights), y.helper(days, nights));
    }

    private void bar() {
        int p = somebody();
        boolean is = random.nextInt(3) == 0;
        changeBool("bar(" + p + ", " + is + ")", z -> z.bar(p, is), y.bar(p, is));
    }

    private void ill() {
        int p = somebody();
        int ill = often() ? 0 : number(0, 3);
        changeBool("ill(" + p + ", " + ill + ")", z -> z.ill(p, ill), y.ill(p, ill));
    }

    private void image() {
        int k = number(0, 2);
        changeBool("image(" + k + ")", z -> z.image(k), y.image(k));
    }

    private void again() {
        int k = number(0, 2);
        changeBool("again(" + k + ")", z -> z.again(k), y.again(k));
        lookAtAll();
    }

    private void evening() {
        int door = 0;
        int standing = 3 + random.nextInt(8);
        for (int i = 0; i < standing; i++) door |= 1 << number(0, Math.max(0, Math.min(y.count(1), 12) - 1));
        int standsThere = often() ? door : random.nextInt() & random.nextInt();
        boolean cold = random.nextBoolean();
        change("evening(" + standsThere + ", " + cold + ")", z -> z.evening(standsThere, cold),
                y.evening(standsThere, cold));
        lookAtEvening();
    }

    private String goodText() {
        StringBuilder text = new StringBuilder();
        int lines = random.nextInt(5);
        for (int i = 0; i < lines; i++) {
            int tests = random.nextInt(3);
            for (int t = 0; t < tests; t++) {
                text.append(t == 0 ? "when " : " and ").append(often() ? "" : "not ");
                int what = random.nextInt(10);
                text.append(WORDS[what]);
                if (what < 7) text.append("<>=".charAt(random.nextInt(3))).append(random.nextInt(what == 0 ? 120 : 4));
            }
            text.append(tests > 0 ? ":" : "");
            int act = random.nextInt(12);
            text.append(act == 0 ? "bar" : act == 1 ? "last" : "add " + (often() ? "" : "-") + random.nextInt(20));
            text.append(";");
        }
        return text.toString();
    }

    private String anyText() {
        StringBuilder text = new StringBuilder(goodText());
        int changes = 1 + random.nextInt(2);
        for (int i = 0; i < changes; i++) {
            int at = random.nextInt(text.length() + 1);
            if (random.nextBoolean() && at < text.length()) {
                text.deleteCharAt(at);
            } else {
                String word = WORDS[random.nextInt(WORDS.length)];
                text.insert(at, random.nextBoolean() ? word : " " + word + " ");
            }
        }
        if (random.nextInt(6) == 0) text.append("bar;".repeat(random.nextInt(20)));
        if (random.nextInt(6) == 0) text.append("when dog" + " and here".repeat(random.nextInt(6)) + ":last;");
        return text.toString();
    }

    private void text(String text) {
        String padded = text + " ".repeat((20 - text.length() % 20) % 20);
        change("end(0)", z -> z.end(0), y.end(0));
        for (int i = 0; i < padded.length(); i += 20) {
            int[] n = new int[5];
            for (int b = 0; b < 20; b++) n[b / 4] = n[b / 4] << 8 | padded.charAt(i + b) & 255;
            change("feed", z -> z.feed(n[0], n[1], n[2], n[3], n[4]), y.feed(n));
        }
        if (often()) change("end", z -> z.end(text.length()), y.end(text.length()));
        change("text " + text, NightShelter::text, y.text());
        for (int i = -1; i < 3; i++) {
            int what = i;
            ask("fault(" + what + ") of " + text, z -> z.fault(what), y.fault(what));
        }
        ask("LINES of " + text, z -> z.count(5), y.count(5));
    }

    private void look() {
        int what = number(0, 14);
        int p = number(0, 24);
        boolean cold = random.nextBoolean();
        lookAtOne(p, what);
        ask("count(" + what + ")", z -> z.count(what), y.count(what));
        ask("called(" + p + ")", z -> z.called(p) ? 1 : 0, y.called(p) ? 1 : 0);
        ask("points(" + p + ")", z -> z.points(p, cold), y.points(p, cold));
    }

    private void lookAtOne(int i, int what) {
        ask("tell(" + i + ", " + what + ")", z -> z.tell(i, what), y.tell(i, what));
        ask("told(" + i + ", " + what + ")", z -> z.told(i, what), y.told(i, what));
        ask("duty(" + i + ", " + what + ")", z -> z.duty(i, what), y.duty(i, what));
        ask("book(" + i + ", " + what + ")", z -> z.book(i, what), y.book(i, what));
    }

    private void lookAtEvening() {
        for (int i = 0; i < y.count(1); i++) {
            for (int j = 0; j < 3; j++) {
                int p = i;
                int what = j;
                ask("told(" + p + ", " + what + ")", z -> z.told(p, what), y.told(p, what));
            }
        }
        int evening = y.count(4) - 1;
        for (int i = 0; i < 15; i++) {
            int what = i;
            ask("book(" + evening + ", " + what + ")", z -> z.book(evening, what), y.book(evening, what));
        }
    }

    private void lookAtAll() {
        for (int i = -1; i < 25; i++) {
            int n = i;
            for (int what = -1; what < 16; what++) {
                lookAtOne(n, what);
            }
            ask("count(" + n + ")", z -> z.count(n), y.count(n));
            ask("called(" + n + ")", z -> z.called(n) ? 1 : 0, y.called(n) ? 1 : 0);
            ask("points(" + n + ")", z -> z.points(n, false), y.points(n, false));
        }
    }
}
