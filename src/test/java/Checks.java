/** What the tests share: they compare answers, print those that are not due, and end with 1 if there were any. */
final class Checks {
    private static int made = 0;
    private static int wrong = 0;

    private Checks() {
    }

    static void same(String call, long got, long due) {
        made++;
        if (got != due) {
            wrong++;
            System.out.println(call + " answered " + got + ", due is " + due);
        }
    }

    static void same(String call, boolean got, boolean due) {
        same(call, got ? 1 : 0, due ? 1 : 0);
    }

    static void close() {
        System.out.println(made + " answers looked at, " + wrong + " of them wrong");
        if (wrong != 0 || made == 0) {
            System.exit(1);
        }
    }

    /** Feeds a text, with blanks behind it that end() cuts off again, and takes it. */
    static int take(NightShelter shelter, String text) {
        feed(shelter, text);
        return shelter.text();
    }

    static void feed(NightShelter shelter, String text) {
        StringBuilder padded = new StringBuilder(text);
        while (padded.length() % 20 != 0) {
            padded.append(' ');
        }
        shelter.end(0);
        for (int i = 0; i < padded.length(); i += 20) {
            shelter.feed(number(padded, i), number(padded, i + 4), number(padded, i + 8),
                    number(padded, i + 12), number(padded, i + 16));
        }
        same("end after feeding " + text, shelter.end(text.length()), text.length());
    }

    private static int number(CharSequence text, int at) {
        int number = 0;
        for (int i = at; i < at + 4; i++) {
            number = number << 8 | text.charAt(i) & 255;
        }
        return number;
    }
}
