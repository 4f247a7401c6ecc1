import java.util.ArrayList;
import java.util.Arrays;
import java.util.Comparator;
import java.util.HashSet;
import java.util.List;
import java.util.Set;
import java.util.TreeMap;
import java.util.regex.Matcher;
import java.util.regex.Pattern;

/**
 * The document once more, written as plainly as it goes and without any care for speed or memory, so that
 * random runs can be compared with it. It shares no code and no way of doing things with NightShelter.
 */
final class PlainShelter {
    static final class Room {
        int holds, mats, kind;
        boolean stairs, dogs;
    }

    static final class Person implements Cloneable {
        int number, age, kind, ill, nights, turned, room = -1;
        boolean climbs, dog, barred;

        Person copy() {
            try {
                return (Person) clone();
            } catch (CloneNotSupportedException e) {
                throw new IllegalStateException(e);
            }
        }
    }

    static final class Helper implements Cloneable {
        int days, most;
        List<Integer> evenings = new ArrayList<>();

        Helper copy() {
            Helper other = new Helper();
            other.days = days;
            other.most = most;
            other.evenings.addAll(evenings);
            return other;
        }

        int left(int evening) {
            int used = 0;
            for (int e : evenings) {
                used += e / 7 == evening / 7 ? 1 : 0;
            }
            return most - used;
        }
    }

    static final class Told {
        Set<Integer> door = new HashSet<>();
        TreeMap<Integer, Integer> rooms = new TreeMap<>();
        TreeMap<Integer, Integer> why = new TreeMap<>();
        List<Integer> order = new ArrayList<>();
        Set<Integer> called = new HashSet<>();
        int wanting, roomsThen;
        boolean cold;
    }

    static final class Line {
        List<String[]> tests = new ArrayList<>();
        String act;
        int amount;
    }

    static final class All {
        List<Room> rooms = new ArrayList<>();
        List<Person> people = new ArrayList<>();
        TreeMap<Integer, Integer> pairs = new TreeMap<>();
        List<Helper> helpers = new ArrayList<>();
        List<Told> evenings = new ArrayList<>();
        List<Line> lines = new ArrayList<>();

        All copy() {
            All other = new All();
            other.rooms.addAll(rooms);
            people.forEach(p -> other.people.add(p.copy()));
            other.pairs.putAll(pairs);
            helpers.forEach(h -> other.helpers.add(h.copy()));
            other.evenings.addAll(evenings);
            other.lines = lines;
            return other;
        }
    }

    private static final Pattern TOKEN = Pattern.compile("[ \n]*([a-z]+|[0-9]+|[:;<>=-]|$|.)", Pattern.DOTALL);
    private static final Set<String> MEASURES = Set.of("age", "kind", "ill", "nights", "turned", "cold", "day");
    private static final Set<String> FLAGS = Set.of("dog", "climbs", "here");

    private All all = new All();
    private final All[] images = new All[3];
    private String tape = "";
    private int fault = 0;
    private int place = -1;

    int feed(int... numbers) {
        if (tape.length() + 20 > 500) {
            return -1;
        }
        StringBuilder more = new StringBuilder(tape);
        for (int number : numbers) {
            more.append((char) (number >>> 24)).append((char) (number >>> 16 & 255));
            more.append((char) (number >>> 8 & 255)).append((char) (number & 255));
        }
        tape = more.toString();
        return tape.length();
    }

    int end(int n) {
        if (n < 0 || n > tape.length()) {
            return -1;
        }
        tape = tape.substring(0, n);
        return n;
    }

    /** Reads with a state for what may come next; the states are named after what was read last. */
    int text() {
        String tokens = tape;
        tape = "";
        fault = 0;
        place = -1;
        List<Line> lines = new ArrayList<>();
        Line line = new Line();
        String state = "begin";
        int tooMany = -1;
        String[] test = null;
        Matcher m = TOKEN.matcher(tokens);
        int from = 0;
        while (true) {
            if (!m.find(from)) {
                throw new IllegalStateException("no token at " + from);
            }
            String token = m.group(1);
            int at = m.start(1);
            from = m.end(1);
            if (token.isEmpty() && state.equals("begin")) {
                break;
            }
            boolean number = token.matches("[0-9]{1,4}");
            String next = "fault";
            if (state.equals("begin")) {
                line = new Line();
                if (lines.size() >= 16 && tooMany < 0) {
                    tooMany = at;
                }
            }
            if ((state.equals("when") || state.equals("and")) && line.tests.size() >= 4 && tooMany < 0) {
                tooMany = at;
            }
            switch (state) {
                case "begin", "colon" -> {
                    if (token.equals("when") && state.equals("begin")) next = "when";
                    if (token.equals("add")) next = "add";
                    if (token.equals("bar") || token.equals("last")) next = "act";
                    line.act = token;
                }
                case "when", "and", "not" -> {
                    if (!state.equals("not")) test = new String[] {"", "", "=", "1"};
                    if (token.equals("not") && !state.equals("not")) {
                        next = "not";
                        test[0] = "not";
                    }
                    if (MEASURES.contains(token)) next = "measure";
                    if (FLAGS.contains(token)) next = "test";
                    test[1] = token;
                }
                case "measure" -> {
                    if (token.equals("<") || token.equals(">") || token.equals("=")) next = "sign";
                    test[2] = token;
                }
                case "sign" -> {
                    if (number) next = "test";
                    test[3] = token;
                }
                case "test" -> {
                    if (token.equals("and")) next = "and";
                    if (token.equals(":")) next = "colon";
                }
                case "add", "minus" -> {
                    if (token.equals("-") && state.equals("add")) next = "minus";
                    if (number) {
                        next = "act";
                        line.amount = (state.equals("minus") ? -1 : 1) * Integer.parseInt(token);
                    }
                }
                case "act" -> {
                    if (token.equals(";")) next = "begin";
                }
                default -> throw new IllegalStateException(state);
            }
            if (next.equals("fault")) {
                fault = 1;
                place = token.isEmpty() ? tokens.length() : at;
                return -1;
            }
            if (next.equals("test")) line.tests.add(test);
            if (state.equals("act")) lines.add(line);
            state = next;
        }
        if (tooMany >= 0) {
            fault = 3;
            place = tooMany;
            return -1;
        }
        all.lines = lines;
        return lines.size();
    }

    int fault(int what) {
        return what == 0 ? fault : what == 1 ? place : -1;
    }

    int room(int holds, int mats, boolean stairs, boolean dogs, int kind) {
        if (all.rooms.size() == 4 || holds < 1 || holds > 6 || mats < 0 || mats > 3 || kind < 0 || kind > 2) {
            return -1;
        }
        Room room = new Room();
        room.holds = holds;
        room.mats = mats;
        room.stairs = stairs;
        room.dogs = dogs;
        room.kind = kind;
        all.rooms.add(room);
        return all.rooms.size() - 1;
    }

    int person(int age, int kind, boolean climbs, boolean dog) {
        if (all.people.size() == 24 || age < 0 || age > 120 || kind < 1 || kind > 2) {
            return -1;
        }
        Person person = new Person();
        person.number = all.people.size();
        person.age = age;
        person.kind = kind;
        person.climbs = climbs;
        person.dog = dog;
        all.people.add(person);
        return person.number;
    }

    private Person who(int person) {
        return person >= 0 && person < all.people.size() ? all.people.get(person) : null;
    }

    boolean ill(int person, int ill) {
        Person p = who(person);
        if (p == null || ill < 0 || ill > 3) {
            return false;
        }
        p.ill = ill;
        return true;
    }

    boolean bar(int person, boolean is) {
        Person p = who(person);
        if (p == null || p.barred == is) {
            return false;
        }
        p.barred = is;
        return true;
    }

    private static int key(int a, int b) {
        return Math.min(a, b) * 100 + Math.max(a, b);
    }

    boolean pair(int a, int b, int how) {
        if (who(a) == null || who(b) == null || a == b || how < 0 || how > 2) {
            return false;
        }
        Integer was = all.pairs.get(key(a, b));
        if (how == 2) {
            return all.pairs.remove(key(a, b)) != null;
        }
        if (was == null ? all.pairs.size() == 20 : was == how) {
            return false;
        }
        all.pairs.put(key(a, b), how);
        return true;
    }

    private boolean isPair(int a, int b, int how) {
        Integer is = all.pairs.get(key(a, b));
        return is != null && is == how;
    }

    int helper(int days, int nights) {
        if (all.helpers.size() == 8 || days < 0 || days > 127 || nights < 1 || nights > 7) {
            return -1;
        }
        Helper helper = new Helper();
        helper.days = days;
        helper.most = nights;
        all.helpers.add(helper);
        return all.helpers.size() - 1;
    }

    private Told latest() {
        return all.evenings.isEmpty() ? null : all.evenings.get(all.evenings.size() - 1);
    }

    int points(int person, boolean cold) {
        Person p = who(person);
        if (p == null) {
            return -2000000000;
        }
        int sum = 0;
        for (Line line : all.lines) {
            boolean holds = true;
            for (String[] test : line.tests) {
                int number = Integer.parseInt(test[3]);
                int is = measure(p, test[1], cold);
                boolean one = test[2].equals("<") ? is < number : test[2].equals(">") ? is > number : is == number;
                holds &= one != test[0].equals("not");
            }
            if (holds && line.act.equals("bar")) return -2000000000;
            if (holds && line.act.equals("last")) return sum;
            if (holds) sum += line.amount;
        }
        return sum;
    }

    private int measure(Person p, String what, boolean cold) {
        return switch (what) {
            case "age" -> p.age;
            case "kind" -> p.kind;
            case "ill" -> p.ill;
            case "nights" -> p.nights;
            case "turned" -> p.turned;
            case "cold" -> cold ? 1 : 0;
            case "day" -> all.evenings.size() % 7;
            case "dog" -> p.dog ? 1 : 0;
            case "climbs" -> p.climbs ? 1 : 0;
            default -> latest() != null && latest().rooms.containsKey(p.number) ? 1 : 0;
        };
    }

    private Set<Integer> party(int person) {
        Set<Integer> party = new HashSet<>(Set.of(person));
        for (int i = 0; i < 24; i++) {
            for (Person a : all.people) {
                for (Person b : all.people) {
                    if (party.contains(a.number) && isPair(a.number, b.number, 1)) party.add(b.number);
                }
            }
        }
        return party;
    }

    /** Whether one may be put in a ROOM beside those who are placed already. */
    private boolean fits(Person p, int room, TreeMap<Integer, Integer> placed, boolean cold) {
        Room r = all.rooms.get(room);
        if (r.stairs && !p.climbs || !r.dogs && p.dog || r.kind != 0 && r.kind != p.kind) return false;
        int inside = 0;
        Set<Integer> own = party(p.number);
        for (int other : placed.keySet()) {
            boolean same = placed.get(other) == room;
            if (own.contains(other) && !same) return false;
            if (same && isPair(p.number, other, 0)) return false;
            if (same && all.people.get(other).ill != p.ill) return false;
            inside += same ? 1 : 0;
        }
        return inside < r.holds + (cold ? r.mats : 0);
    }

    /** The first PLACING, by numbers and each one's own wishes; null if there is none. */
    private TreeMap<Integer, Integer> placing(List<Integer> people, int from, TreeMap<Integer, Integer> placed, boolean cold) {
        if (from == people.size()) {
            return new TreeMap<>(placed);
        }
        Person p = all.people.get(people.get(from));
        List<Integer> wishes = new ArrayList<>();
        if (p.room >= 0) wishes.add(p.room);
        for (int room = 0; room < all.rooms.size(); room++) wishes.add(room);
        for (int room : wishes) {
            if (fits(p, room, placed, cold)) {
                placed.put(p.number, room);
                TreeMap<Integer, Integer> found = placing(people, from + 1, placed, cold);
                placed.remove(p.number);
                if (found != null) return found;
            }
        }
        return null;
    }

    private TreeMap<Integer, Integer> placing(Set<Integer> people, boolean cold) {
        return placing(people.stream().sorted().toList(), 0, new TreeMap<>(), cold);
    }

    int evening(int door, boolean cold) {
        Told t = new Told();
        for (Person p : all.people) {
            if ((door >> p.number & 1) != 0) t.door.add(p.number);
        }
        if (t.door.size() > 10 || all.evenings.size() >= 400) {
            return -1;
        }
        t.cold = cold;
        t.roomsThen = all.rooms.size();
        for (int p : t.door) {
            if (all.people.get(p).barred) t.why.put(p, 1);
            else if (points(p, cold) == -2000000000) t.why.put(p, 2);
            else t.order.add(p);
        }
        t.order.sort(Comparator.<Integer>comparingInt(p -> -points(p, cold))
                .thenComparingInt(p -> -all.people.get(p).turned).thenComparingInt(p -> p));
        Set<Integer> taken = new HashSet<>();
        for (int p : t.order) {
            if (t.why.containsKey(p) || taken.contains(p)) continue;
            Set<Integer> party = party(p);
            Set<Integer> with = new HashSet<>(taken);
            with.addAll(party);
            int why = 0;
            if (!t.order.containsAll(party)) why = 3;
            else if (placing(party, cold) == null) why = 4;
            else if (placing(with, cold) == null) why = 5;
            else taken = with;
            for (int q : party) {
                if (t.order.contains(q)) t.why.put(q, why);
            }
        }
        t.rooms = placing(taken, cold);
        callHelpers(t, new HashSet<>(t.rooms.values()).size() + (taken.size() > 8 ? 1 : 0));
        for (int p : t.door) {
            Person person = all.people.get(p);
            if (taken.contains(p)) {
                person.nights++;
                person.turned = 0;
                person.room = t.rooms.get(p);
            } else {
                person.turned++;
            }
        }
        all.evenings.add(t);
        return taken.size();
    }

    private void callHelpers(Told t, int wanted) {
        int evening = all.evenings.size();
        List<Integer> can = new ArrayList<>();
        for (int h = 0; h < all.helpers.size(); h++) {
            Helper helper = all.helpers.get(h);
            if ((helper.days >> evening % 7 & 1) != 0 && helper.left(evening) > 0) can.add(h);
        }
        can.sort(Comparator.<Integer>comparingInt(h -> all.helpers.get(h).evenings.size()).thenComparingInt(h -> h));
        for (int h : can.subList(0, Math.min(wanted, can.size()))) {
            t.called.add(h);
            all.helpers.get(h).evenings.add(evening);
        }
        t.wanting = wanted - t.called.size();
    }

    int told(int person, int what) {
        if (who(person) == null || latest() == null) {
            return -1;
        }
        return switch (what) {
            case 0 -> latest().rooms.getOrDefault(person, -1);
            case 1 -> latest().why.getOrDefault(person, -1);
            case 2 -> latest().order.indexOf(person);
            default -> -1;
        };
    }

    boolean called(int helper) {
        return latest() != null && latest().called.contains(helper);
    }

    int tell(int person, int what) {
        Person p = who(person);
        if (p == null || what < 0 || what > 10) {
            return -1;
        }
        int apart = 0;
        int together = 0;
        for (Person other : all.people) {
            if (other != p && isPair(person, other.number, 0)) apart++;
            if (other != p && isPair(person, other.number, 1)) together++;
        }
        return new int[] {p.age, p.kind, p.ill, p.nights, p.turned, p.room, p.barred ? 1 : 0, p.climbs ? 1 : 0,
            p.dog ? 1 : 0, apart, together}[what];
    }

    int duty(int helper, int what) {
        if (helper < 0 || helper >= all.helpers.size()) {
            return -1;
        }
        Helper h = all.helpers.get(helper);
        return what == 0 ? h.evenings.size() : what == 1 ? h.left(all.evenings.size()) : -1;
    }

    private static int bits(Iterable<Integer> numbers) {
        int bits = 0;
        for (int number : numbers) bits |= 1 << number;
        return bits;
    }

    int book(int evening, int what) {
        if (evening < 0 || evening >= all.evenings.size()) {
            return -1;
        }
        Told t = all.evenings.get(evening);
        if (what >= 10 && what < 10 + t.roomsThen) {
            return bits(t.rooms.keySet().stream().filter(p -> t.rooms.get(p) == what - 10).toList());
        }
        return switch (what) {
            case 0 -> bits(t.door);
            case 1 -> bits(t.rooms.keySet());
            case 2 -> bits(t.called);
            case 3 -> t.wanting;
            case 4 -> t.cold ? 1 : 0;
            default -> -1;
        };
    }

    int count(int what) {
        int holds = all.rooms.stream().mapToInt(r -> r.holds).sum();
        int mats = all.rooms.stream().mapToInt(r -> r.mats).sum();
        List<Integer> counts = Arrays.asList(all.rooms.size(), all.people.size(), all.pairs.size(),
                all.helpers.size(), all.evenings.size(), all.lines.size(), holds, holds + mats);
        return what >= 0 && what < counts.size() ? counts.get(what) : -1;
    }

    boolean image(int k) {
        if (k < 0 || k > 2) {
            return false;
        }
        images[k] = all.copy();
        return true;
    }

    boolean again(int k) {
        if (k < 0 || k > 2 || images[k] == null) {
            return false;
        }
        all = images[k].copy();
        return true;
    }
}
