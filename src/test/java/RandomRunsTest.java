import java.util.Random;

/** All promises: random runs of calls, with every answer beside that of PlainShelter. */
public final class RandomRunsTest {
    private static final String[] WORDS = {"age", "kind", "ill", "nights", "turned", "cold", "day", "dog", "climbs",
        "here", "when", "and", "not", "add", "bar", "last", "ad", "bars", ":", ";", "<", ">", "=", "-", "0", "1", "2",
        "18", "45", "9999", "12345", " ", "\n", "#", "A", ""};

    private final Random random;
    private final NightShelter x = new NightShelter();
    private final PlainShelter y = new PlainShelter();
    private final String run;
    private final int care;

    private RandomRunsTest(long seed) {
        random = new Random(seed);
        run = "run " + seed + ": ";
        care = random.nextInt(4);
    }

    public static void main(String[] args) {
        int runs = args.length > 0 ? Integer.parseInt(args[0]) : 400;
        for (int seed = 0; seed < runs; seed++) {
            new RandomRunsTest(seed).go();
        }
        Checks.close();
    }

    private void go() {
        begin();
        for (int i = 0; i < 60; i++) {
            step();
            look();
        }
        lookAtAll();
    }

    private void begin() {
        int rooms = random.nextInt(5);
        for (int i = 0; i < rooms; i++) room();
        int people = random.nextInt(25);
        for (int i = 0; i < people; i++) person();
        int pairs = random.nextInt(21);
        for (int i = 0; i < pairs; i++) pair();
        int helpers = random.nextInt(9);
        for (int i = 0; i < helpers; i++) helper();
        if (random.nextInt(3) > 0) text(goodText());
    }

    private void step() {
        switch (random.nextInt(24)) {
            case 0 -> room();
            case 1 -> person();
            case 2 -> pair();
            case 3 -> helper();
            case 4 -> bar();
            case 5, 6 -> ill();
            case 7 -> text(goodText());
            case 8 -> text(anyText());
            case 9 -> image();
            case 10 -> again();
            case 11 -> {
                int n = number(-2, 600);
                same("end(" + n + ")", x.end(n), y.end(n));
            }
            case 12 -> {
                int a = random.nextInt();
                same("feed", x.feed(a, ~a, a * 3, a * 5, a * 7), y.feed(a, ~a, a * 3, a * 5, a * 7));
            }
            default -> evening();
        }
    }

    /** Mostly from least to most, at times a little outside, seldom anything. */
    private int number(int least, int most) {
        int luck = random.nextInt(100);
        if (luck == 0) return random.nextInt();
        if (luck < 4) return random.nextBoolean() ? least - 1 : most + 1;
        return least + random.nextInt(most - least + 1);
    }

    private boolean often() {
        return random.nextInt(5) > 0;
    }

    private void room() {
        int holds = number(1, care == 0 ? 2 : 6);
        int mats = number(0, 3);
        boolean stairs = !often();
        boolean dogs = often();
        int kind = often() ? 0 : number(0, 2);
        same("room(" + holds + ", " + mats + ", " + stairs + ", " + dogs + ", " + kind + ")",
                x.room(holds, mats, stairs, dogs, kind), y.room(holds, mats, stairs, dogs, kind));
    }

    private void person() {
        int age = number(0, 120);
        int kind = number(1, 2);
        boolean climbs = often();
        boolean dog = !often();
        same("person(" + age + ", " + kind + ", " + climbs + ", " + dog + ")",
                x.person(age, kind, climbs, dog), y.person(age, kind, climbs, dog));
    }

    private int somebody() {
        return number(0, Math.max(0, y.count(1) - 1));
    }

    private void pair() {
        int a = somebody();
        int b = somebody();
        int how = random.nextInt(care + 2) > 0 ? 0 : number(0, 2);
        same("pair(" + a + ", " + b + ", " + how + ")", x.pair(a, b, how), y.pair(a, b, how));
    }

    private void helper() {
        int days = number(0, 127);
        int nights = number(1, 7);
        same("helper(" + days + ", " + nights + ")", x.helper(days, nights), y.helper(days, nights));
    }

    private void bar() {
        int p = somebody();
        boolean is = random.nextInt(3) == 0;
        same("bar(" + p + ", " + is + ")", x.bar(p, is), y.bar(p, is));
    }

    private void ill() {
        int p = somebody();
        int ill = often() ? 0 : number(0, 3);
        same("ill(" + p + ", " + ill + ")", x.ill(p, ill), y.ill(p, ill));
    }

    private void image() {
        int k = number(0, 2);
        same("image(" + k + ")", x.image(k), y.image(k));
    }

    private void again() {
        int k = number(0, 2);
        same("again(" + k + ")", x.again(k), y.again(k));
        lookAtAll();
    }

    private void evening() {
        int door = 0;
        int standing = 3 + random.nextInt(8);
        for (int i = 0; i < standing; i++) door |= 1 << number(0, Math.max(0, Math.min(y.count(1), 12) - 1));
        if (!often()) door = random.nextInt() & random.nextInt();
        boolean cold = random.nextBoolean();
        same("evening(" + door + ", " + cold + ")", x.evening(door, cold), y.evening(door, cold));
        lookAtEvening();
    }

    private String goodText() {
        StringBuilder text = new StringBuilder();
        int lines = random.nextInt(5);
        for (int i = 0; i < lines; i++) {
            int tests = random.nextInt(3);
            for (int t = 0; t < tests; t++) {
                text.append(t == 0 ? "when " : " and ").append(often() ? "" : "not ");
                int what = random.nextInt(10);
                text.append(WORDS[what]);
                if (what < 7) text.append("<>=".charAt(random.nextInt(3))).append(random.nextInt(what == 0 ? 120 : 4));
            }
            text.append(tests > 0 ? ":" : "");
            int act = random.nextInt(12);
            text.append(act == 0 ? "bar" : act == 1 ? "last" : "add " + (often() ? "" : "-") + random.nextInt(20));
            text.append(";");
        }
        return text.toString();
    }

    private String anyText() {
        StringBuilder text = new StringBuilder(goodText());
        int changes = 1 + random.nextInt(2);
        for (int i = 0; i < changes; i++) {
            int at = random.nextInt(text.length() + 1);
            if (random.nextBoolean() && at < text.length()) {
                text.deleteCharAt(at);
            } else {
                String word = WORDS[random.nextInt(WORDS.length)];
                text.insert(at, random.nextBoolean() ? word : " " + word + " ");
            }
        }
        if (random.nextInt(6) == 0) text.append("bar;".repeat(random.nextInt(20)));
        if (random.nextInt(6) == 0) text.append("when dog" + " and here".repeat(random.nextInt(6)) + ":last;");
        return text.toString();
    }

    private void text(String text) {
        String padded = text + " ".repeat((20 - text.length() % 20) % 20);
        x.end(0);
        y.end(0);
        for (int i = 0; i < padded.length(); i += 20) {
            int[] n = new int[5];
            for (int b = 0; b < 20; b++) n[b / 4] = n[b / 4] << 8 | padded.charAt(i + b) & 255;
            same("feed", x.feed(n[0], n[1], n[2], n[3], n[4]), y.feed(n));
        }
        if (often()) same("end", x.end(text.length()), y.end(text.length()));
        same("text " + text, x.text(), y.text());
        for (int what = -1; what < 3; what++) same("fault(" + what + ") of " + text, x.fault(what), y.fault(what));
        same("LINES of " + text, x.count(5), y.count(5));
    }

    private void look() {
        int what = number(0, 14);
        int p = number(0, 24);
        boolean cold = random.nextBoolean();
        same("tell(" + p + ", " + what + ")", x.tell(p, what), y.tell(p, what));
        same("told(" + p + ", " + what + ")", x.told(p, what), y.told(p, what));
        same("duty(" + p + ", " + what + ")", x.duty(p, what), y.duty(p, what));
        same("book(" + p + ", " + what + ")", x.book(p, what), y.book(p, what));
        same("count(" + what + ")", x.count(what), y.count(what));
        same("called(" + p + ")", x.called(p), y.called(p));
        same("points(" + p + ")", x.points(p, cold), y.points(p, cold));
    }

    private void lookAtEvening() {
        for (int p = 0; p < y.count(1); p++) {
            for (int what = 0; what < 3; what++) {
                same("told(" + p + ", " + what + ")", x.told(p, what), y.told(p, what));
            }
        }
        for (int what = 0; what < 15; what++) {
            int evening = y.count(4) - 1;
            same("book(" + evening + ", " + what + ")", x.book(evening, what), y.book(evening, what));
        }
    }

    private void lookAtAll() {
        lookAtEvening();
        for (int what = -1; what < 16; what++) {
            same("count(" + what + ")", x.count(what), y.count(what));
            for (int i = -1; i < 25; i++) {
                same("tell(" + i + ", " + what + ")", x.tell(i, what), y.tell(i, what));
                same("duty(" + i + ", " + what + ")", x.duty(i, what), y.duty(i, what));
                same("book(" + i + ", " + what + ")", x.book(i, what), y.book(i, what));
            }
        }
        for (int i = -1; i < 25; i++) {
            same("called(" + i + ")", x.called(i), y.called(i));
            same("points(" + i + ")", x.points(i, false), y.points(i, false));
        }
    }

    private void same(String call, long got, long due) {
        Checks.same(run + call, got, due);
    }

    private void same(String call, boolean got, boolean due) {
        Checks.same(run + call, got, due);
    }
}
