import java.util.Arrays;

/**
 * A night shelter, evening by evening. The numbered promises that the public methods keep, and the
 * words in capitals, are those of the document DOC.md.
 */
public final class NightShelter {
    /** There is none. */
    public static final int NONE = -1;

    private static final int MAX_ROOMS = 4;
    private static final int MAX_PEOPLE = 24;
    private static final int MAX_PAIRS = 20;
    private static final int MAX_HELPERS = 8;
    private static final int MAX_AT_DOOR = 10;
    private static final int MAX_EVENINGS = 400;
    private static final int MAX_TAPE = 500;
    private static final int MAX_LINES = 16;
    private static final int MAX_TESTS = 4;
    private static final int MAX_DIGITS = 4;
    private static final int IMAGES = 3;

    private static final int BYTES_OF_A_FEED = 20;
    private static final int DAYS_OF_A_WEEK = 7;
    private static final int MANY_TAKEN = 8;
    private static final int LINE_BARS = -2000000000;

    private static final int APART = 0;
    private static final int TOGETHER = 1;
    private static final int NO_PAIR = 2;

    private static final int NO_FAULT = 0;
    private static final int FAULT_OF_FORM = 1;
    private static final int FAULT_TOO_MANY = 3;

    private static final int WHY_TAKEN = 0;
    private static final int WHY_BARRED = 1;
    private static final int WHY_LINE = 2;
    private static final int WHY_PARTY_NOT_IN_ORDER = 3;
    private static final int WHY_NO_ROOM_AT_ALL = 4;
    private static final int WHY_NO_PLACING = 5;

    private final Tape tape;
    private final State now;
    private final State[] images;
    private final Porter porter;
    private int latestFault;
    private int latestPlace;

    public NightShelter() {
        tape = new Tape();
        now = new State(new Rules());
        images = new State[IMAGES];
        porter = new Porter(now);
        latestFault = NO_FAULT;
        latestPlace = NONE;
    }

    public int feed(int a, int b, int c, int d, int e) {
        if (tape.length > MAX_TAPE - BYTES_OF_A_FEED) {
            return NONE;
        }
        tape.append(a);
        tape.append(b);
        tape.append(c);
        tape.append(d);
        tape.append(e);
        return tape.length;
    }

    public int end(int n) {
        if (n < 0 || n > tape.length) {
            return NONE;
        }
        tape.length = n;
        return n;
    }

    public int text() {
        Tokens tokens = new Tokens(tape);
        tokens.readAll();
        Parser parser = new Parser(tokens);
        parser.parse();
        tape.length = 0;
        latestFault = parser.fault;
        latestPlace = parser.place;
        if (latestFault != NO_FAULT) {
            return NONE;
        }
        now.rules = parser.rules;
        return now.rules.lines;
    }

    public int fault(int what) {
        switch (what) {
            case 0: return latestFault;
            case 1: return latestPlace;
            default: return NONE;
        }
    }

    public int room(int holds, int mats, boolean stairs, boolean dogs, int kind) {
        if (!within(holds, 1, 6) || !within(mats, 0, 3) || !within(kind, 0, 2)) {
            return NONE;
        }
        return now.rooms.add(holds, mats, stairs, dogs, kind);
    }

    public int person(int age, int kind, boolean climbs, boolean dog) {
        if (!within(age, 0, 120) || !within(kind, 1, 2)) {
            return NONE;
        }
        return now.people.add(age, kind, climbs, dog);
    }

    public boolean ill(int person, int ill) {
        if (!now.people.has(person) || !within(ill, 0, 3)) {
            return false;
        }
        now.people.ill[person] = ill;
        return true;
    }

    public boolean bar(int person, boolean is) {
        People people = now.people;
        if (!people.has(person) || isIn(people.barred, person) == is) {
            return false;
        }
        people.barred ^= bit(person);
        return true;
    }

    public boolean pair(int a, int b, int how) {
        People people = now.people;
        if (!people.has(a) || !people.has(b) || a == b || !within(how, APART, NO_PAIR)) {
            return false;
        }
        return people.changePair(a, b, how);
    }

    public int helper(int days, int nights) {
        if (!within(days, 0, bit(DAYS_OF_A_WEEK) - 1) || !within(nights, 1, DAYS_OF_A_WEEK)) {
            return NONE;
        }
        return now.helpers.add(days, nights);
    }

    public int evening(int door, boolean cold) {
        int standing = door & (bit(now.people.size) - 1);
        if (Integer.bitCount(standing) > MAX_AT_DOOR || now.evenings() >= MAX_EVENINGS) {
            return NONE;
        }
        Night night = new Night(now, standing, cold);
        porter.lineUp(night);
        porter.takeParties(night);
        porter.settleParties(night);
        porter.callHelpers(night);
        porter.closeDoor(night);
        return Integer.bitCount(night.taken);
    }

    public int points(int person, boolean cold) {
        return now.people.has(person) ? now.pointsOf(person, cold) : LINE_BARS;
    }

    public int told(int person, int what) {
        Night night = now.latest;
        if (night == null || !now.people.has(person)) {
            return NONE;
        }
        switch (what) {
            case 0: return night.roomOf(person);
            case 1: return night.why[person];
            case 2: return night.placeOf(person);
            default: return NONE;
        }
    }

    public boolean called(int helper) {
        return now.latest != null && now.helpers.has(helper) && isIn(now.latest.called, helper);
    }

    public int tell(int person, int what) {
        People people = now.people;
        if (!people.has(person)) {
            return NONE;
        }
        switch (what) {
            case 0: return people.age[person];
            case 1: return people.kind[person];
            case 2: return people.ill[person];
            case 3: return people.nights[person];
            case 4: return people.turned[person];
            case 5: return people.room[person];
            case 6: return oneIfIn(people.barred, person);
            case 7: return oneIfIn(people.climbers, person);
            case 8: return oneIfIn(people.dogOwners, person);
            case 9: return Integer.bitCount(people.apart[person]);
            case 10: return Integer.bitCount(people.together[person]);
            default: return NONE;
        }
    }

    public int duty(int helper, int what) {
        Helpers helpers = now.helpers;
        if (!helpers.has(helper)) {
            return NONE;
        }
        switch (what) {
            case 0: return helpers.nights[helper];
            case 1: return helpers.leftThisWeek(helper);
            default: return NONE;
        }
    }

    public int book(int evening, int what) {
        Night night = now.nightOf(evening);
        if (night == null) {
            return NONE;
        }
        switch (what) {
            case 0: return night.door;
            case 1: return night.taken;
            case 2: return night.called;
            case 3: return night.wanting;
            case 4: return night.cold ? 1 : 0;
            default: return within(what, 10, 9 + night.inRoom.length) ? night.inRoom[what - 10] : NONE;
        }
    }

    public int count(int what) {
        switch (what) {
            case 0: return now.rooms.size;
            case 1: return now.people.size;
            case 2: return now.people.pairs;
            case 3: return now.helpers.size;
            case 4: return now.evenings();
            case 5: return now.rules.lines;
            case 6: return now.rooms.placesInAll(false);
            case 7: return now.rooms.placesInAll(true);
            default: return NONE;
        }
    }

    public boolean image(int k) {
        if (k < 0 || k >= IMAGES) {
            return false;
        }
        if (images[k] == null) {
            images[k] = new State(now.rules);
        }
        images[k].copyFrom(now);
        return true;
    }

    public boolean again(int k) {
        if (k < 0 || k >= IMAGES || images[k] == null) {
            return false;
        }
        now.copyFrom(images[k]);
        return true;
    }

    private static boolean within(int number, int least, int most) {
        return number >= least && number <= most;
    }

    private static int bit(int number) {
        return 1 << number;
    }

    private static boolean isIn(int bits, int number) {
        return (bits >> number & 1) != 0;
    }

    private static int oneIfIn(int bits, int number) {
        return bits >> number & 1;
    }

    private static void copy(int[] from, int[] to) {
        System.arraycopy(from, 0, to, 0, Math.min(from.length, to.length));
    }

    /** THE TAPE. */
    private static final class Tape {
        final byte[] bytes = new byte[MAX_TAPE];
        int length;

        void append(int number) {
            for (int shift = 24; shift >= 0 && length < MAX_TAPE; shift -= 8) {
                bytes[length] = (byte) (number >> shift);
                length++;
            }
        }
    }

    /** The TOKENS of a tape, and one more for its end. */
    private static final class Tokens {
        static final int BAD = 0;
        static final int END = 1;
        static final int NUMBER = 2;
        /* A sign's kind is its own byte; words lie above all bytes. */
        static final int WHEN = 256;
        static final int AND = 257;
        static final int NOT = 258;
        static final int ADD = 259;
        static final int BAR = 260;
        static final int LAST = 261;
        static final int AGE = 262;
        static final int KIND = 263;
        static final int ILL = 264;
        static final int NIGHTS = 265;
        static final int TURNED = 266;
        static final int COLD = 267;
        static final int DAY = 268;
        static final int DOG = 269;
        static final int CLIMBS = 270;
        static final int HERE = 271;

        private final Tape tape;
        private int next;
        final int[] kinds;
        final int[] firsts;
        final int[] values;
        int size;

        Tokens(Tape tape) {
            this.tape = tape;
            kinds = new int[tape.length + 1];
            firsts = new int[tape.length + 1];
            values = new int[tape.length + 1];
        }

        void readAll() {
            for (int i = 0; i < kinds.length; i++) {
                skipBlanks();
                firsts[i] = next;
                kinds[i] = readToken(i);
                size = i + 1;
                if (kinds[i] == END) {
                    break;
                }
            }
        }

        private int byteAt(int place) {
            return place >= 0 && place < tape.length ? tape.bytes[place] & 255 : NONE;
        }

        private void skipBlanks() {
            while (next < tape.length && (byteAt(next) == ' ' || byteAt(next) == '\n')) {
                next++;
            }
        }

        private int readToken(int i) {
            if (next >= tape.length) {
                return END;
            }
            int first = byteAt(next);
            if (isLetter(first)) {
                return readWord();
            }
            if (isDigit(first)) {
                return readNumber(i);
            }
            next++;
            return isSign(first) ? first : BAD;
        }

        private int readWord() {
            int first = next;
            while (next < tape.length && isLetter(byteAt(next))) {
                next++;
            }
            int kind = ruleWord(first);
            return kind != BAD ? kind : testWord(first);
        }

        private int readNumber(int i) {
            int first = next;
            while (next < tape.length && isDigit(byteAt(next))) {
                if (next - first < MAX_DIGITS) {
                    values[i] = values[i] * 10 + byteAt(next) - '0';
                }
                next++;
            }
            return next - first <= MAX_DIGITS ? NUMBER : BAD;
        }

        private int ruleWord(int first) {
            if (spells(first, "when")) return WHEN;
            if (spells(first, "and")) return AND;
            if (spells(first, "not")) return NOT;
            if (spells(first, "add")) return ADD;
            if (spells(first, "bar")) return BAR;
            if (spells(first, "last")) return LAST;
            return BAD;
        }

        private int testWord(int first) {
            if (spells(first, "age")) return AGE;
            if (spells(first, "kind")) return KIND;
            if (spells(first, "ill")) return ILL;
            if (spells(first, "nights")) return NIGHTS;
            if (spells(first, "turned")) return TURNED;
            if (spells(first, "cold")) return COLD;
            if (spells(first, "day")) return DAY;
            if (spells(first, "dog")) return DOG;
            if (spells(first, "climbs")) return CLIMBS;
            if (spells(first, "here")) return HERE;
            return BAD;
        }

        private boolean spells(int first, String word) {
            if (next - first != word.length()) {
                return false;
            }
            for (int i = 0; i < word.length(); i++) {
                if (byteAt(first + i) != word.charAt(i)) {
                    return false;
                }
            }
            return true;
        }

        private static boolean isLetter(int b) {
            return b >= 'a' && b <= 'z';
        }

        private static boolean isDigit(int b) {
            return b >= '0' && b <= '9';
        }

        private static boolean isSign(int b) {
            return b == ':' || b == ';' || b == '<' || b == '>' || b == '=' || b == '-';
        }
    }

    /** The LINES of a TEXT. Once parsed they never change, so that images may share them. */
    private static final class Rules {
        int lines;
        private final int[] tests = new int[MAX_LINES];
        private final int[] subjects = new int[MAX_LINES * MAX_TESTS];
        private final int[] signs = new int[MAX_LINES * MAX_TESTS];
        private final int[] numbers = new int[MAX_LINES * MAX_TESTS];
        private final boolean[] negated = new boolean[MAX_LINES * MAX_TESTS];
        final int[] acts = new int[MAX_LINES];
        final int[] amounts = new int[MAX_LINES];

        /* One too many is a FAULT that the parser notes; here it is only not stored. */
        void addTest(int line, boolean not, int subject, int sign, int number) {
            if (line >= MAX_LINES || tests[line] >= MAX_TESTS) {
                return;
            }
            int slot = line * MAX_TESTS + tests[line];
            negated[slot] = not;
            subjects[slot] = subject;
            signs[slot] = sign;
            numbers[slot] = number;
            tests[line]++;
        }

        void finishLine(int line, int act, int amount) {
            if (line >= MAX_LINES) {
                return;
            }
            acts[line] = act;
            amounts[line] = amount;
            lines = line + 1;
        }

        boolean lineHolds(int line, State state, int person, boolean cold) {
            int first = line * MAX_TESTS;
            for (int slot = first; slot < first + tests[line]; slot++) {
                int value = state.valueOf(subjects[slot], person, cold);
                if (compares(value, signs[slot], numbers[slot]) == negated[slot]) {
                    return false;
                }
            }
            return true;
        }

        private static boolean compares(int value, int sign, int number) {
            switch (sign) {
                case '<': return value < number;
                case '>': return value > number;
                default: return value == number;
            }
        }
    }

    /** Reads RULES from TOKENS. A method that answers false has stopped at the token that is wrong. */
    private static final class Parser {
        private final Tokens tokens;
        private int at;
        private int tooMany = NONE;
        final Rules rules = new Rules();
        int fault = NO_FAULT;
        int place = NONE;

        Parser(Tokens tokens) {
            this.tokens = tokens;
        }

        void parse() {
            boolean goesOn = true;
            for (int line = 0; line <= MAX_TAPE && goesOn && kind() != Tokens.END; line++) {
                goesOn = readLine(line);
            }
            if (!goesOn) {
                fault = FAULT_OF_FORM;
                place = tokens.firsts[at];
            } else if (tooMany != NONE) {
                fault = FAULT_TOO_MANY;
                place = tooMany;
            }
        }

        private boolean readLine(int line) {
            noteIfTooMany(line, MAX_LINES);
            if (skip(Tokens.WHEN) && !readTests(line)) {
                return false;
            }
            return readAct(line) && skip(';');
        }

        private boolean readTests(int line) {
            boolean more = true;
            for (int test = 0; test <= MAX_TAPE && more; test++) {
                noteIfTooMany(test, MAX_TESTS);
                if (!readTest(line)) {
                    return false;
                }
                more = skip(Tokens.AND);
            }
            return skip(':');
        }

        private boolean readTest(int line) {
            boolean not = skip(Tokens.NOT);
            int subject = kind();
            if (skip(Tokens.DOG) || skip(Tokens.CLIMBS) || skip(Tokens.HERE)) {
                rules.addTest(line, not, subject, '=', 1);
                return true;
            }
            if (subject < Tokens.AGE || subject > Tokens.DAY) {
                return false;
            }
            skip(subject);
            int sign = kind();
            if (!skip('<') && !skip('>') && !skip('=')) {
                return false;
            }
            int number = tokens.values[at];
            if (!skip(Tokens.NUMBER)) {
                return false;
            }
            rules.addTest(line, not, subject, sign, number);
            return true;
        }

        private boolean readAct(int line) {
            int act = kind();
            if (skip(Tokens.BAR) || skip(Tokens.LAST)) {
                rules.finishLine(line, act, 0);
                return true;
            }
            if (!skip(Tokens.ADD)) {
                return false;
            }
            int direction = skip('-') ? -1 : 1;
            int number = tokens.values[at];
            if (!skip(Tokens.NUMBER)) {
                return false;
            }
            rules.finishLine(line, act, direction * number);
            return true;
        }

        private int kind() {
            return tokens.kinds[at];
        }

        private boolean skip(int kind) {
            if (kind() != kind || at + 1 >= tokens.size) {
                return false;
            }
            at++;
            return true;
        }

        private void noteIfTooMany(int before, int most) {
            if (before >= most && tooMany == NONE) {
                tooMany = tokens.firsts[at];
            }
        }
    }

    /** ROOMS. */
    private static final class Rooms {
        int size;
        final int[] holds = new int[MAX_ROOMS];
        final int[] mats = new int[MAX_ROOMS];
        final int[] kind = new int[MAX_ROOMS];
        int withStairs;
        int withDogs;

        int add(int holds, int mats, boolean stairs, boolean dogs, int kind) {
            if (size >= MAX_ROOMS) {
                return NONE;
            }
            this.holds[size] = holds;
            this.mats[size] = mats;
            this.kind[size] = kind;
            withStairs |= stairs ? bit(size) : 0;
            withDogs |= dogs ? bit(size) : 0;
            size++;
            return size - 1;
        }

        int places(int room, boolean cold) {
            return cold ? holds[room] + mats[room] : holds[room];
        }

        int placesInAll(boolean cold) {
            int sum = 0;
            for (int room = 0; room < size; room++) {
                sum += places(room, cold);
            }
            return sum;
        }

        void copyFrom(Rooms other) {
            size = other.size;
            copy(other.holds, holds);
            copy(other.mats, mats);
            copy(other.kind, kind);
            withStairs = other.withStairs;
            withDogs = other.withDogs;
        }
    }

    /** PEOPLE and their PAIRS. A set of PEOPLE is an int with a bit for each. */
    private static final class People {
        int size;
        int pairs;
        final int[] age = new int[MAX_PEOPLE];
        final int[] kind = new int[MAX_PEOPLE];
        final int[] ill = new int[MAX_PEOPLE];
        final int[] nights = new int[MAX_PEOPLE];
        final int[] turned = new int[MAX_PEOPLE];
        final int[] room = new int[MAX_PEOPLE];
        final int[] apart = new int[MAX_PEOPLE];
        final int[] together = new int[MAX_PEOPLE];
        int climbers;
        int dogOwners;
        int barred;

        boolean has(int person) {
            return person >= 0 && person < size;
        }

        int add(int age, int kind, boolean climbs, boolean dog) {
            if (size >= MAX_PEOPLE) {
                return NONE;
            }
            this.age[size] = age;
            this.kind[size] = kind;
            room[size] = NONE;
            climbers |= climbs ? bit(size) : 0;
            dogOwners |= dog ? bit(size) : 0;
            size++;
            return size - 1;
        }

        boolean changePair(int a, int b, int how) {
            int was = howPaired(a, b);
            if (was == how || was == NO_PAIR && pairs >= MAX_PAIRS) {
                return false;
            }
            if (was == NO_PAIR) {
                pairs++;
            } else {
                turnPair(was == APART ? apart : together, a, b);
            }
            if (how == NO_PAIR) {
                pairs--;
            } else {
                turnPair(how == APART ? apart : together, a, b);
            }
            return true;
        }

        private int howPaired(int a, int b) {
            if (isIn(apart[a], b)) {
                return APART;
            }
            return isIn(together[a], b) ? TOGETHER : NO_PAIR;
        }

        private static void turnPair(int[] others, int a, int b) {
            others[a] ^= bit(b);
            others[b] ^= bit(a);
        }

        int partyOf(int person) {
            int party = bit(person);
            for (int round = 0; round < MAX_PEOPLE; round++) {
                int wider = party;
                for (int other = 0; other < size; other++) {
                    wider |= isIn(party, other) ? together[other] : 0;
                }
                if (wider == party) {
                    break;
                }
                party = wider;
            }
            return party;
        }

        void copyFrom(People other) {
            size = other.size;
            pairs = other.pairs;
            copy(other.age, age);
            copy(other.kind, kind);
            copy(other.ill, ill);
            copy(other.nights, nights);
            copy(other.turned, turned);
            copy(other.room, room);
            copy(other.apart, apart);
            copy(other.together, together);
            climbers = other.climbers;
            dogOwners = other.dogOwners;
            barred = other.barred;
        }
    }

    /** HELPERS. */
    private static final class Helpers {
        int size;
        final int[] days = new int[MAX_HELPERS];
        final int[] nightsOfAWeek = new int[MAX_HELPERS];
        final int[] nights = new int[MAX_HELPERS];
        final int[] nightsThisWeek = new int[MAX_HELPERS];

        boolean has(int helper) {
            return helper >= 0 && helper < size;
        }

        int add(int days, int nightsOfAWeek) {
            if (size >= MAX_HELPERS) {
                return NONE;
            }
            this.days[size] = days;
            this.nightsOfAWeek[size] = nightsOfAWeek;
            size++;
            return size - 1;
        }

        int leftThisWeek(int helper) {
            return nightsOfAWeek[helper] - nightsThisWeek[helper];
        }

        int nextInTurn(int day, int calledAlready) {
            int best = NONE;
            for (int helper = 0; helper < size; helper++) {
                boolean free = isIn(days[helper], day) && leftThisWeek(helper) > 0
                        && !isIn(calledAlready, helper);
                if (free && (best == NONE || nights[helper] < nights[best])) {
                    best = helper;
                }
            }
            return best;
        }

        void takeNight(int helper) {
            nights[helper]++;
            nightsThisWeek[helper]++;
        }

        void beginWeek() {
            Arrays.fill(nightsThisWeek, 0);
        }

        void copyFrom(Helpers other) {
            size = other.size;
            copy(other.days, days);
            copy(other.nightsOfAWeek, nightsOfAWeek);
            copy(other.nights, nights);
            copy(other.nightsThisWeek, nightsThisWeek);
        }
    }

    /** An evening that was. It never changes after it, so that images may share the whole chain. */
    private static final class Night {
        final Night before;
        final int number;
        final int door;
        final boolean cold;
        int taken;
        int called;
        int wanting;
        int inOrder;
        int ordered;
        final int[] order = new int[MAX_AT_DOOR];
        final int[] why = new int[MAX_PEOPLE];
        final int[] inRoom;

        Night(State state, int door, boolean cold) {
            before = state.latest;
            number = state.evenings();
            this.door = door;
            this.cold = cold;
            inRoom = new int[state.rooms.size];
            Arrays.fill(why, NONE);
        }

        int roomOf(int person) {
            for (int room = 0; room < inRoom.length; room++) {
                if (isIn(inRoom[room], person)) {
                    return room;
                }
            }
            return NONE;
        }

        int placeOf(int person) {
            for (int place = 0; place < ordered; place++) {
                if (order[place] == person) {
                    return place;
                }
            }
            return NONE;
        }

        void giveReason(int people, int reason) {
            for (int person = 0; person < MAX_PEOPLE; person++) {
                if (isIn(people, person)) {
                    why[person] = reason;
                }
            }
        }
    }

    /** All that an image keeps. */
    private static final class State {
        final Rooms rooms = new Rooms();
        final People people = new People();
        final Helpers helpers = new Helpers();
        Rules rules;
        Night latest;

        State(Rules rules) {
            this.rules = rules;
        }

        void copyFrom(State other) {
            rooms.copyFrom(other.rooms);
            people.copyFrom(other.people);
            helpers.copyFrom(other.helpers);
            rules = other.rules;
            latest = other.latest;
        }

        int evenings() {
            return latest == null ? 0 : latest.number + 1;
        }

        int dayOfWeek() {
            return latest == null ? 0 : (latest.number + 1) % DAYS_OF_A_WEEK;
        }

        Night nightOf(int number) {
            Night night = latest;
            while (night != null && night.number != number) {
                night = night.before;
            }
            return night;
        }

        int pointsOf(int person, boolean cold) {
            int sum = 0;
            for (int line = 0; line < rules.lines; line++) {
                if (rules.lineHolds(line, this, person, cold)) {
                    if (rules.acts[line] == Tokens.BAR) {
                        return LINE_BARS;
                    }
                    if (rules.acts[line] == Tokens.LAST) {
                        return sum;
                    }
                    sum += rules.amounts[line];
                }
            }
            return sum;
        }

        int valueOf(int subject, int person, boolean cold) {
            switch (subject) {
                case Tokens.AGE: return people.age[person];
                case Tokens.KIND: return people.kind[person];
                case Tokens.ILL: return people.ill[person];
                case Tokens.NIGHTS: return people.nights[person];
                case Tokens.TURNED: return people.turned[person];
                case Tokens.COLD: return cold ? 1 : 0;
                case Tokens.DAY: return dayOfWeek();
                case Tokens.DOG: return oneIfIn(people.dogOwners, person);
                case Tokens.CLIMBS: return oneIfIn(people.climbers, person);
                case Tokens.HERE: return latest == null ? 0 : oneIfIn(latest.taken, person);
                default: return 0;
            }
        }
    }

    /** Lets people in on one EVENING, step by step. Its rows are used again every evening. */
    private static final class Porter {
        private final State state;
        private final Placer placer;
        private final int[] points = new int[MAX_AT_DOOR];

        Porter(State state) {
            this.state = state;
            placer = new Placer(state);
        }

        void lineUp(Night night) {
            for (int person = 0; person < state.people.size; person++) {
                if (isIn(night.door, person)) {
                    lookAt(night, person);
                }
            }
        }

        private void lookAt(Night night, int person) {
            int sum = state.pointsOf(person, night.cold);
            if (isIn(state.people.barred, person)) {
                night.why[person] = WHY_BARRED;
            } else if (sum == LINE_BARS) {
                night.why[person] = WHY_LINE;
            } else if (night.ordered < MAX_AT_DOOR) {
                putInOrder(night, person, sum);
            }
        }

        /* People come by numbers, so who is alike in all else goes behind those who are there. */
        private void putInOrder(Night night, int person, int sum) {
            int place = night.ordered;
            while (place > 0 && isAhead(night, person, sum, place - 1)) {
                night.order[place] = night.order[place - 1];
                points[place] = points[place - 1];
                place--;
            }
            night.order[place] = person;
            points[place] = sum;
            night.ordered++;
            night.inOrder |= bit(person);
        }

        private boolean isAhead(Night night, int person, int sum, int place) {
            if (sum != points[place]) {
                return sum > points[place];
            }
            return state.people.turned[person] > state.people.turned[night.order[place]];
        }

        void takeParties(Night night) {
            placer.begin(night.cold);
            int seen = 0;
            for (int place = 0; place < night.ordered; place++) {
                int person = night.order[place];
                if (!isIn(seen, person)) {
                    int party = state.people.partyOf(person);
                    int reason = reasonAgainst(night, party);
                    if (reason == WHY_TAKEN && !placer.takes(party)) {
                        reason = WHY_NO_PLACING;
                    }
                    if (reason == WHY_TAKEN) {
                        night.taken |= party;
                    }
                    night.giveReason(party & night.inOrder, reason);
                    seen |= party;
                }
            }
        }

        private int reasonAgainst(Night night, int party) {
            if ((party & ~night.inOrder) != 0) {
                return WHY_PARTY_NOT_IN_ORDER;
            }
            return placer.roomsFor(party) == 0 ? WHY_NO_ROOM_AT_ALL : WHY_TAKEN;
        }

        void settleParties(Night night) {
            for (int person = 0; person < state.people.size; person++) {
                boolean done = !isIn(night.taken, person) || placer.hasSettled(person);
                for (int choice = 0; choice <= night.inRoom.length && !done; choice++) {
                    int room = choice == 0 ? state.people.room[person] : choice - 1;
                    done = placer.settles(person, room);
                }
            }
            for (int room = 0; room < night.inRoom.length; room++) {
                night.inRoom[room] = placer.peopleIn(room);
            }
        }

        void callHelpers(Night night) {
            int wanted = Integer.bitCount(night.taken) > MANY_TAKEN ? 1 : 0;
            for (int people : night.inRoom) {
                wanted += people != 0 ? 1 : 0;
            }
            int day = state.dayOfWeek();
            night.wanting = wanted;
            for (int turn = 0; turn < wanted; turn++) {
                int helper = state.helpers.nextInTurn(day, night.called);
                if (helper != NONE) {
                    state.helpers.takeNight(helper);
                    night.called |= bit(helper);
                    night.wanting--;
                }
            }
        }

        void closeDoor(Night night) {
            People people = state.people;
            for (int person = 0; person < people.size; person++) {
                if (isIn(night.taken, person)) {
                    people.nights[person]++;
                    people.turned[person] = 0;
                    people.room[person] = night.roomOf(person);
                } else if (isIn(night.door, person)) {
                    people.turned[person]++;
                }
            }
            state.latest = night;
            if (state.dayOfWeek() == 0) {
                state.helpers.beginWeek();
            }
        }
    }

    /**
     * Finds PLACINGS of the parties that were TAKEN. The one that was found last stays in the rows, so
     * that a new party mostly needs no search.
     */
    private static final class Placer {
        private final State state;
        private boolean cold;
        private int parties;
        private final int[] members = new int[MAX_AT_DOOR];
        private final int[] size = new int[MAX_AT_DOOR];
        private final int[] ill = new int[MAX_AT_DOOR];
        private final int[] foes = new int[MAX_AT_DOOR];
        private final int[] allowed = new int[MAX_AT_DOOR];
        private final int[] where = new int[MAX_AT_DOOR];
        private final boolean[] settled = new boolean[MAX_AT_DOOR];
        private final int[] inside = new int[MAX_ROOMS];
        private final int[] illInside = new int[MAX_ROOMS];
        private final int[] left = new int[MAX_ROOMS];

        Placer(State state) {
            this.state = state;
        }

        void begin(boolean cold) {
            this.cold = cold;
            parties = 0;
            for (int room = 0; room < state.rooms.size; room++) {
                inside[room] = 0;
                left[room] = state.rooms.places(room, cold);
            }
        }

        int peopleIn(int room) {
            return inside[room];
        }

        /** The ROOMS, as bits, that would take a PARTY if all were empty. */
        int roomsFor(int party) {
            if (illOf(party) == NONE || (foesOf(party) & party) != 0) {
                return 0;
            }
            int rooms = 0;
            for (int room = 0; room < state.rooms.size; room++) {
                rooms |= suits(room, party) ? bit(room) : 0;
            }
            return rooms;
        }

        private int illOf(int party) {
            int found = NONE;
            for (int person = 0; person < state.people.size; person++) {
                if (isIn(party, person)) {
                    if (found != NONE && found != state.people.ill[person]) {
                        return NONE;
                    }
                    found = state.people.ill[person];
                }
            }
            return found;
        }

        private int foesOf(int party) {
            int found = 0;
            for (int person = 0; person < state.people.size; person++) {
                found |= isIn(party, person) ? state.people.apart[person] : 0;
            }
            return found;
        }

        private boolean suits(int room, int party) {
            Rooms rooms = state.rooms;
            People people = state.people;
            return Integer.bitCount(party) <= rooms.places(room, cold)
                    && (!isIn(rooms.withStairs, room) || (party & ~people.climbers) == 0)
                    && (isIn(rooms.withDogs, room) || (party & people.dogOwners) == 0)
                    && (rooms.kind[room] == 0 || areAllOfKind(party, rooms.kind[room]));
        }

        private boolean areAllOfKind(int party, int kind) {
            for (int person = 0; person < state.people.size; person++) {
                if (isIn(party, person) && state.people.kind[person] != kind) {
                    return false;
                }
            }
            return true;
        }

        /** Takes a PARTY in if there is a PLACING of it and all that were TAKEN so far. */
        boolean takes(int party) {
            if (parties >= MAX_AT_DOOR) {
                return false;
            }
            members[parties] = party;
            size[parties] = Integer.bitCount(party);
            ill[parties] = illOf(party);
            foes[parties] = foesOf(party);
            allowed[parties] = roomsFor(party);
            where[parties] = NONE;
            settled[parties] = false;
            parties++;
            if (placeRest(0)) {
                return true;
            }
            takeOutUnsettled();
            if (placeRest(0)) {
                return true;
            }
            parties--;
            placeRest(0);
            return false;
        }

        private int partyWith(int person) {
            for (int party = 0; party < parties; party++) {
                if (isIn(members[party], person)) {
                    return party;
                }
            }
            return NONE;
        }

        boolean hasSettled(int person) {
            int party = partyWith(person);
            return party != NONE && settled[party];
        }

        /** Keeps a person's PARTY in a ROOM for good if all who are not settled yet can be placed, too. */
        boolean settles(int person, int room) {
            int party = partyWith(person);
            if (party == NONE || room == NONE) {
                return false;
            }
            if (where[party] == room) {
                settled[party] = true;
                return true;
            }
            takeOutUnsettled();
            if (!isIn(openRooms(party), room)) {
                return false;
            }
            put(party, room);
            settled[party] = true;
            if (placeRest(0)) {
                return true;
            }
            settled[party] = false;
            takeOut(party);
            return false;
        }

        /** Places all that stand in no ROOM, or leaves them all in none: then there is no way. */
        private boolean placeRest(int depth) {
            int party = tightest();
            if (party == NONE) {
                return true;
            }
            if (depth >= MAX_AT_DOOR || isCrowded()) {
                return false;
            }
            int open = openRooms(party);
            for (int room = 0; room < state.rooms.size; room++) {
                if (isIn(open, room)) {
                    put(party, room);
                    if (placeRest(depth + 1)) {
                        return true;
                    }
                    takeOut(party);
                }
            }
            return false;
        }

        /* The one with the fewest ROOMS for its clashes first: a dead end shows early. */
        private int tightest() {
            int best = NONE;
            int fewestRooms = 0;
            int mostClashes = 0;
            for (int party = 0; party < parties; party++) {
                if (where[party] == NONE) {
                    int rooms = Integer.bitCount(openRooms(party));
                    int clashes = 1 + clashesOf(party);
                    if (best == NONE || rooms * mostClashes < fewestRooms * clashes) {
                        best = party;
                        fewestRooms = rooms;
                        mostClashes = clashes;
                    }
                }
            }
            return best;
        }

        /** With how many of those who stand in no ROOM a party can't share one. */
        private int clashesOf(int party) {
            int found = 0;
            for (int other = 0; other < parties; other++) {
                boolean clash = ill[other] != ill[party] || (foes[party] & members[other]) != 0;
                found += where[other] == NONE && clash ? 1 : 0;
            }
            return found;
        }

        /* Too few places are seen at once here; the search would try every way to fill them first. */
        private boolean isCrowded() {
            int places = 0;
            for (int room = 0; room < state.rooms.size; room++) {
                places += Math.min(left[room], waitingFor(room));
            }
            for (int party = 0; party < parties; party++) {
                places -= where[party] == NONE ? size[party] : 0;
            }
            return places < 0;
        }

        /* Places that nobody who is left can use, as beside another ILL, are no places. */
        private int waitingFor(int room) {
            int people = 0;
            for (int party = 0; party < parties; party++) {
                people += where[party] == NONE && isOpen(room, party) ? size[party] : 0;
            }
            return people;
        }

        /*
         * Parties that are alike in all could change places, so only the way in which the earlier one
         * has the lower ROOM is searched.
         */
        private int openRooms(int party) {
            int lowest = 0;
            int highest = state.rooms.size - 1;
            for (int other = 0; other < parties; other++) {
                if (where[other] != NONE && !settled[other] && areAlike(party, other)) {
                    if (other < party) {
                        lowest = Math.max(lowest, where[other]);
                    } else {
                        highest = Math.min(highest, where[other]);
                    }
                }
            }
            int open = 0;
            for (int room = lowest; room <= highest; room++) {
                open |= isOpen(room, party) ? bit(room) : 0;
            }
            return open;
        }

        private boolean areAlike(int a, int b) {
            return size[a] == size[b] && ill[a] == ill[b] && foes[a] == foes[b]
                    && allowed[a] == allowed[b];
        }

        private boolean isOpen(int room, int party) {
            return (allowed[party] >> room & 1) != 0 && size[party] <= left[room]
                    && (foes[party] & inside[room]) == 0
                    && (inside[room] == 0 || illInside[room] == ill[party]);
        }

        private void put(int party, int room) {
            where[party] = room;
            inside[room] |= members[party];
            illInside[room] = ill[party];
            left[room] -= size[party];
        }

        private void takeOut(int party) {
            int room = where[party];
            if (room == NONE) {
                return;
            }
            where[party] = NONE;
            inside[room] &= ~members[party];
            left[room] += size[party];
        }

        private void takeOutUnsettled() {
            for (int party = 0; party < parties; party++) {
                if (!settled[party]) {
                    takeOut(party);
                }
            }
        }
    }
}
