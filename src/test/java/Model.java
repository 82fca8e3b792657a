import java.util.ArrayList;
import java.util.HashMap;
import java.util.List;
import java.util.Map;
import java.util.NoSuchElementException;
import java.util.regex.Pattern;

/**
 * The document written a second time, in the plainest way: days are counted one by one, a text is
 * held against a pattern, a fault is found by trying how a text could go on.
 */
final class Model {
    private static final int NONE = -1;
    private static final Pattern TEXT = Pattern.compile(testsPattern(8));
    private static final String[] WAYS_ON = {"", "0", "=0", "y=0"};

    private record Service(int person, int master, int from, int to, int told, int[] back) {}
    private record Gift(int person, int letters, int coins, int told) {}
    private record Statute(String text, int from, int told) {}
    private record Number(int n, int from, int told) {}
    private record Piece(int person, int[] judges, int[][] points, int[] done) {}

    private static final class Human {
        int parent;
        int other;
        int master = NONE;
        int dead = NONE;
        int shop = NONE;
        int takeover = NONE;
    }

    private final List<Human> people = new ArrayList<>();
    private final List<Service> terms = new ArrayList<>();
    private final List<Gift> gifts = new ArrayList<>();
    private final List<Statute> statutes = new ArrayList<>();
    private final List<Number> numbers = new ArrayList<>();
    private final List<Piece> pieces = new ArrayList<>();
    private String text = "";
    private int now = 0;

    private boolean is(int person) {
        return 0 <= person && person < people.size();
    }

    private boolean lives(int person) {
        return is(person) && people.get(person).dead == NONE;
    }

    private boolean rules(int person) {
        return lives(person) && people.get(person).master != NONE;
    }

    int person(int parent, int other) {
        boolean told = (parent == NONE || is(parent)) && (other == NONE || is(other));
        if (!told || people.size() == 30) {
            return NONE;
        }
        Human human = new Human();
        human.parent = parent;
        human.other = other;
        people.add(human);
        return people.size() - 1;
    }

    boolean master(int person) {
        if (!lives(person) || rules(person)) {
            return false;
        }
        people.get(person).master = now;
        return true;
    }

    boolean death(int master, int heir) {
        if (!rules(master) || master == heir || !(heir == NONE || rules(heir))) {
            return false;
        }
        people.get(master).dead = now;
        people.get(master).shop = NONE;
        for (Human human : people) {
            if (human.shop == master) {
                human.shop = heir;
            }
        }
        if (heir != NONE) {
            Human next = people.get(heir);
            next.takeover = now;
            if (next.shop == heir) {
                next.shop = NONE;
            }
        }
        return true;
    }

    int days(int n) {
        if (n < 0 || n > 20000 || now + n > 20000) {
            return NONE;
        }
        now += n;
        return now;
    }

    int term(int person, int master, int from, int to) {
        boolean fit = is(person) && (is(master) || master == NONE) && person != master
                && from <= to && from >= 0 && to <= now && terms.size() < 100;
        if (!fit) {
            return NONE;
        }
        terms.add(new Service(person, master, from, to, now, new int[] {NONE}));
        return terms.size() - 1;
    }

    boolean back(int term) {
        if (term < 0 || term >= terms.size() || terms.get(term).back[0] != NONE) {
            return false;
        }
        terms.get(term).back[0] = now;
        return true;
    }

    boolean give(int person, int letters, int coins) {
        boolean fit = lives(person) && letters >= 0 && letters <= 9 && coins >= 0 && coins <= 9999
                && gifts.size() < 100;
        if (fit) {
            gifts.add(new Gift(person, letters, coins, now));
        }
        return fit;
    }

    int feed(int bytes) {
        StringBuilder more = new StringBuilder(text);
        for (char sign : new char[] {(char) (bytes >>> 24), (char) (bytes >>> 16 & 255),
                (char) (bytes >>> 8 & 255), (char) (bytes & 255)}) {
            if (sign != 0) {
                more.append(sign);
            }
        }
        if (more.length() > 120) {
            return NONE;
        }
        text = more.toString();
        return text.length();
    }

    boolean end(int n) {
        if (n < 0 || n > text.length()) {
            return false;
        }
        text = text.substring(0, n);
        return true;
    }

    int fault() {
        if (TEXT.matcher(text).matches()) {
            return NONE;
        }
        for (int i = 0; i < text.length(); i++) {
            if (!canGoOn(text.substring(0, i + 1))) {
                return i;
            }
        }
        return text.length();
    }

    private static String testsPattern(int depth) {
        String unit = " *+[ydwlfmk] *+[<>=] *+[0-9]{1,5}+ *+";
        if (depth > 0) {
            unit = "(?:" + unit + "| *+[(]" + testsPattern(depth - 1) + "[)] *+)";
        }
        return unit + "(?:[&|]" + unit + ")*+";
    }

    private static boolean canGoOn(String begun) {
        for (String way : WAYS_ON) {
            StringBuilder whole = new StringBuilder(begun).append(way);
            for (int open = 0; open <= 8; open++) {
                if (TEXT.matcher(whole).matches()) {
                    return true;
                }
                whole.append(')');
            }
        }
        return false;
    }

    int statute(int from) {
        if (from < 0 || from > 20000 || statutes.size() == 30 || fault() != NONE) {
            return NONE;
        }
        statutes.add(new Statute(text, from, now));
        text = "";
        return statutes.size() - 1;
    }

    private boolean askable(int d, int q) {
        return d >= 0 && d <= 20000 && q >= 0 && q <= now;
    }

    int force(int d, int q) {
        if (!askable(d, q)) {
            return NONE;
        }
        for (int from = d; from >= 0; from--) {
            for (int i = statutes.size() - 1; i >= 0; i--) {
                if (statutes.get(i).from == from && statutes.get(i).told <= q) {
                    return i;
                }
            }
        }
        return NONE;
    }

    private boolean known(Service term, int q) {
        return term.told <= q && !(term.back[0] != NONE && term.back[0] <= q);
    }

    /** How many unlike masters a person served on a day; NONE: none, and on the road. */
    private int[] mastersByDay(int person, int d, int q) {
        int[] all = new int[d + 1];
        int[] last = new int[d + 1];
        for (int day = 0; day <= d; day++) {
            last[day] = NONE;
        }
        for (int master = 0; master < people.size(); master++) {
            for (Service term : terms) {
                if (term.person == person && term.master == master && known(term, q)) {
                    for (int day = term.from; day <= Math.min(term.to, d); day++) {
                        all[day] += last[day] == master ? 0 : 1;
                        last[day] = master;
                    }
                }
            }
        }
        for (Service term : terms) {
            if (term.person == person && term.master == NONE && known(term, q)) {
                for (int day = term.from; day <= Math.min(term.to, d); day++) {
                    all[day] = all[day] == 0 ? NONE : all[day];
                }
            }
        }
        return all;
    }

    int value(int person, int what, int d, int q) {
        if (!is(person) || !askable(d, q)) {
            return NONE;
        }
        int sum = 0;
        switch (what) {
            case 0, 1, 6:
                for (int masters : mastersByDay(person, d, q)) {
                    boolean counts = what == 0 ? masters > 0 : what == 1 ? masters == NONE : masters > 1;
                    sum += counts ? 1 : 0;
                }
                return sum;
            case 2, 3:
                for (Gift gift : gifts) {
                    if (gift.person == person && gift.told <= d && gift.told <= q) {
                        sum += what == 2 ? gift.letters : gift.coins;
                    }
                }
                return sum;
            case 4:
                for (Piece piece : pieces) {
                    int done = piece.done[0];
                    if (piece.person == person && passed(piece) && done <= d && done <= q) {
                        sum = total(piece) / 12;
                    }
                }
                return sum;
            case 5:
                Human human = people.get(person);
                for (int parent : new int[] {human.parent, human.other}) {
                    if (parent != NONE && people.get(parent).master != NONE) {
                        int since = people.get(parent).master;
                        sum = since <= d && since <= q ? 1 : sum;
                    }
                }
                return sum;
            default:
                return NONE;
        }
    }

    int may(int person, int d, int q) {
        if (!is(person) || !askable(d, q)) {
            return NONE;
        }
        if (comes(person, force(d, q), d, q)) {
            return 1;
        }
        int[] masters = mastersByDay(person, d, q);
        for (int day = 0; day <= d; day++) {
            if (masters[day] > 0) {
                return comes(person, force(day, q), d, q) ? 2 : 0;
            }
        }
        return 0;
    }

    private boolean comes(int person, int statute, int d, int q) {
        if (statute == NONE) {
            return true;
        }
        Map<Character, Integer> values = new HashMap<>();
        values.put('d', value(person, 0, d, q));
        values.put('y', value(person, 0, d, q) / 360);
        values.put('w', value(person, 1, d, q));
        values.put('l', value(person, 2, d, q));
        values.put('f', value(person, 3, d, q));
        values.put('m', value(person, 4, d, q));
        values.put('k', value(person, 5, d, q));
        return holds(statutes.get(statute).text.replace(" ", ""), values);
    }

    /** Splits at the outermost | first, then at the outermost &, then opens brackets. */
    private static boolean holds(String tests, Map<Character, Integer> values) {
        for (char joint : new char[] {'|', '&'}) {
            int open = 0;
            for (int i = 0; i < tests.length(); i++) {
                char sign = tests.charAt(i);
                open += sign == '(' ? 1 : sign == ')' ? -1 : 0;
                if (open == 0 && sign == joint) {
                    boolean before = holds(tests.substring(0, i), values);
                    boolean behind = holds(tests.substring(i + 1), values);
                    return joint == '|' ? before || behind : before && behind;
                }
            }
        }
        if (tests.charAt(0) == '(') {
            return holds(tests.substring(1, tests.length() - 1), values);
        }
        int value = values.get(tests.charAt(0));
        int number = Integer.parseInt(tests.substring(2));
        char sign = tests.charAt(1);
        return sign == '<' && value < number || sign == '>' && value > number
                || sign == '=' && value == number;
    }

    int piece(int person, long seed) {
        if (!lives(person) || rules(person) || may(person, now, now) == 0 || pieces.size() == 40) {
            return NONE;
        }
        for (Piece piece : pieces) {
            if (piece.person == person && piece.done[0] == NONE) {
                return NONE;
            }
        }
        List<Integer> bench = new ArrayList<>();
        for (int one = 0; one < people.size(); one++) {
            boolean served = false;
            for (Service term : terms) {
                served |= term.person == person && term.master == one && known(term, now);
            }
            if (rules(one) && !served && !kin(one, person)) {
                bench.add(one);
            }
        }
        if (bench.size() < 3) {
            return NONE;
        }
        int[] judges = new int[3];
        long x = seed;
        for (int i = 0; i < 3; i++) {
            x = x * 6364136223846793005L + 1442695040888963407L;
            judges[i] = bench.remove((int) Long.remainderUnsigned(x >>> 33, bench.size()));
        }
        int[][] points = new int[4][3];
        for (int[] part : points) {
            java.util.Arrays.fill(part, NONE);
        }
        pieces.add(new Piece(person, judges, points, new int[] {NONE}));
        return pieces.size() - 1;
    }

    private boolean isPiece(int piece) {
        return piece >= 0 && piece < pieces.size();
    }

    int judge(int piece, int i) {
        return isPiece(piece) && i >= 0 && i <= 2 ? pieces.get(piece).judges[i] : NONE;
    }

    boolean mark(int piece, int i, int part, int points) {
        boolean fit = isPiece(piece) && i >= 0 && i <= 2 && part >= 0 && part <= 3 && points >= 0
                && points <= 10 && pieces.get(piece).done[0] == NONE;
        if (!fit) {
            return false;
        }
        Piece one = pieces.get(piece);
        one.points[part][i] = points;
        int missing = 0;
        for (int[] row : one.points) {
            for (int each : row) {
                missing += each == NONE ? 1 : 0;
            }
        }
        if (missing == 0) {
            one.done[0] = now;
            if (passed(one) && !rules(one.person) && lives(one.person)) {
                people.get(one.person).master = now;
            }
        }
        return true;
    }

    private static int total(Piece piece) {
        int sum = 0;
        for (int[] part : piece.points) {
            sum += part[0] + part[1] + part[2];
        }
        return sum;
    }

    private static int refused(Piece piece) {
        for (int part = 0; part < 4; part++) {
            int[] row = piece.points[part];
            if (row[0] + row[1] + row[2] < 15) {
                return part;
            }
        }
        return NONE;
    }

    private static boolean passed(Piece piece) {
        return piece.done[0] != NONE && refused(piece) == NONE;
    }

    int told(int piece, int what) {
        if (!isPiece(piece)) {
            return NONE;
        }
        Piece one = pieces.get(piece);
        boolean done = one.done[0] != NONE;
        return switch (what) {
            case 0 -> one.person;
            case 1 -> done ? 1 : 0;
            case 2 -> done ? total(one) / 12 : NONE;
            case 3 -> passed(one) ? 1 : 0;
            case 4 -> done ? refused(one) : NONE;
            case 5 -> one.done[0];
            default -> NONE;
        };
    }

    boolean hire(int master, int person) {
        if (!rules(master) || !lives(person) || master == person || people.get(person).shop == master) {
            return false;
        }
        people.get(person).shop = master;
        return true;
    }

    boolean leave(int person) {
        if (!is(person) || people.get(person).shop == NONE) {
            return false;
        }
        people.get(person).shop = NONE;
        return true;
    }

    boolean number(int n, int from) {
        boolean fit = n >= 0 && n <= 30 && from >= 0 && from <= 20000 && numbers.size() < 30;
        if (fit) {
            numbers.add(new Number(n, from, now));
        }
        return fit;
    }

    int hands(int master) {
        if (!rules(master)) {
            return NONE;
        }
        int sum = 0;
        for (Human human : people) {
            sum += human.shop == master ? 1 : 0;
        }
        return sum;
    }

    int lawful(int master) {
        if (!rules(master)) {
            return NONE;
        }
        int number = 3;
        int best = NONE;
        for (Number each : numbers) {
            if (each.from <= now && each.told <= now && each.from >= best) {
                best = each.from;
                number = each.n;
            }
        }
        int takeover = people.get(master).takeover;
        boolean excess = takeover != NONE && now - takeover <= 100;
        return hands(master) <= number || excess ? 1 : 0;
    }

    boolean kin(int one, int other) {
        if (!is(one) || !is(other)) {
            return false;
        }
        List<Integer> first = near(one);
        List<Integer> second = near(other);
        return one == other || first.contains(other) || second.contains(one)
                || first.stream().anyMatch(second::contains);
    }

    private List<Integer> near(int person) {
        List<Integer> parents = new ArrayList<>(List.of(people.get(person).parent, people.get(person).other));
        parents.removeIf(parent -> parent == NONE);
        return parents;
    }

    int look(int term, int what) {
        if (term < 0 || term >= terms.size()) {
            throw new NoSuchElementException();
        }
        Service one = terms.get(term);
        return switch (what) {
            case 0 -> one.person;
            case 1 -> one.master;
            case 2 -> one.from;
            case 3 -> one.to;
            case 4 -> one.told;
            case 5 -> one.back[0];
            default -> throw new NoSuchElementException();
        };
    }

    int count(int what) {
        int sum = 0;
        switch (what) {
            case 0: return now;
            case 1: return people.size();
            case 2:
                for (int person = 0; person < people.size(); person++) {
                    sum += rules(person) ? 1 : 0;
                }
                return sum;
            case 3: return terms.size();
            case 4: return statutes.size();
            case 5: return pieces.size();
            case 6: return text.length();
            case 7:
                for (Human human : people) {
                    sum += human.shop != NONE ? 1 : 0;
                }
                return sum;
            default: return NONE;
        }
    }
}
