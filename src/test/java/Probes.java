import java.util.ArrayList;
import java.util.List;
import java.util.function.BiConsumer;

/**
 * Questions, and calls that go on from where a house stands, which together show all that a house
 * knows: what can be asked at once, and what only later calls bring to light (the room that is left,
 * the points of a piece that is not done, the bytes of a text, the days that a shop still has).
 *
 * Each probe makes some 250 calls at most, so that a house of some 250 stays within its 512.
 */
final class Probes {
    private static final int NONE = GuildHouse.NONE;
    private static final int PEOPLE = 30;
    private static final int LAST_DAY = 20000;

    /** One run of calls and the list to which it writes the answers. */
    record Probe(String name, BiConsumer<GuildHouse, List<Integer>> calls) {
        List<Integer> ask(GuildHouse house) {
            List<Integer> answers = new ArrayList<>();
            calls.accept(house, answers);
            return answers;
        }
    }

    static final List<Probe> ALL = all();

    private Probes() {}

    /** The place of the first answer that is not alike in two lists; NONE if there is none. */
    static int firstUnlike(List<Integer> one, List<Integer> other) {
        for (int i = 0; i < Math.max(one.size(), other.size()); i++) {
            boolean alike = i < one.size() && i < other.size() && one.get(i).equals(other.get(i));
            if (!alike) {
                return i;
            }
        }
        return NONE;
    }

    private static List<Probe> all() {
        List<Probe> probes = new ArrayList<>();
        probes.add(new Probe("counts and force", Probes::counts));
        probes.add(new Probe("values and may", (house, to) -> values(house, to, LAST_DAY, house.count(0))));
        probes.add(new Probe("values of the day before", (house, to) -> values(house, to, house.count(0) - 1, house.count(0))));
        probes.add(new Probe("values known the day before", (house, to) -> values(house, to, LAST_DAY, house.count(0) - 1)));
        probes.add(new Probe("values a day later", (house, to) -> values(house, to, LAST_DAY, house.days(1))));
        probes.add(new Probe("kin of the even", (house, to) -> kinship(house, to, 0)));
        probes.add(new Probe("kin of the odd", (house, to) -> kinship(house, to, 1)));
        for (int what = 0; what < 6; what += 2) {
            int first = what;
            probes.add(new Probe("look " + first, (house, to) -> looks(house, to, first)));
        }
        probes.add(new Probe("back", Probes::backs));
        probes.add(new Probe("told", Probes::pieces));
        probes.add(new Probe("judges", Probes::judges));
        for (int cell = 0; cell < 12; cell++) {
            int missing = cell;
            probes.add(new Probe("points but " + missing, (house, to) -> points(house, to, missing)));
        }
        for (int days : new int[] {0, 1, 99, 100, 101}) {
            probes.add(new Probe("shops after " + days, (house, to) -> shops(house, to, days)));
        }
        probes.add(new Probe("whose hands", Probes::whoseHands));
        probes.add(new Probe("number", (house, to) -> number(house, to, 0)));
        probes.add(new Probe("number a day later", (house, to) -> number(house, to, 1)));
        probes.add(new Probe("masters", Probes::masters));
        probes.add(new Probe("deaths", Probes::deaths));
        probes.add(new Probe("text", Probes::text));
        probes.add(new Probe("text as a statute", Probes::textAsStatute));
        probes.add(new Probe("room for people and pieces", Probes::roomForPeople));
        probes.add(new Probe("room for statutes and numbers", Probes::roomForEdicts));
        probes.add(new Probe("room for gifts", Probes::roomForGifts));
        probes.add(new Probe("room for terms", Probes::roomForTerms));
        return List.copyOf(probes);
    }

    private static void counts(GuildHouse house, List<Integer> to) {
        for (int what = 0; what < 8; what++) {
            to.add(house.count(what));
        }
        int now = house.count(0);
        to.add(house.fault());
        for (int d : new int[] {0, 1, now - 1, now, now + 1, LAST_DAY - 1, LAST_DAY}) {
            to.add(house.force(d, now));
            to.add(house.force(d, now - 1));
        }
    }

    private static void values(GuildHouse house, List<Integer> to, int d, int q) {
        for (int person = 0; person < PEOPLE; person++) {
            for (int what = 0; what < 7; what++) {
                to.add(house.value(person, what, d, q));
            }
            to.add(house.may(person, d, q));
        }
    }

    private static void kinship(GuildHouse house, List<Integer> to, int even) {
        for (int one = even; one < PEOPLE; one += 2) {
            for (int other = 0; other <= one; other++) {
                to.add(house.kin(one, other) ? 1 : 0);
            }
        }
    }

    private static void looks(GuildHouse house, List<Integer> to, int first) {
        int terms = house.count(3);
        for (int term = 0; term < terms; term++) {
            to.add(house.look(term, first));
            to.add(house.look(term, first + 1));
        }
    }

    private static void backs(GuildHouse house, List<Integer> to) {
        int terms = house.count(3);
        for (int term = 0; term <= terms; term++) {
            to.add(house.back(term) ? 1 : 0);
        }
    }

    private static void pieces(GuildHouse house, List<Integer> to) {
        int all = house.count(5);
        for (int piece = 0; piece < all; piece++) {
            for (int what = 0; what < 6; what++) {
                to.add(house.told(piece, what));
            }
        }
    }

    private static void judges(GuildHouse house, List<Integer> to) {
        int all = house.count(5);
        for (int piece = 0; piece < all; piece++) {
            for (int i = 0; i < 3; i++) {
                to.add(house.judge(piece, i));
            }
        }
    }

    /** Gives eleven points a piece: it is done if the twelfth had been given, and passes if that was 5. */
    private static void points(GuildHouse house, List<Integer> to, int missing) {
        int all = house.count(5);
        for (int piece = Math.max(0, all - 5); piece < all; piece++) {
            for (int cell = 0; cell < 12; cell++) {
                if (cell != missing) {
                    to.add(house.mark(piece, cell / 4, cell % 4, 5) ? 1 : 0);
                }
            }
            for (int what = 1; what < 6; what++) {
                to.add(house.told(piece, what));
            }
        }
        to.add(house.count(2));
    }

    private static void shops(GuildHouse house, List<Integer> to, int days) {
        to.add(house.days(days));
        for (int master = 0; master < PEOPLE; master++) {
            to.add(house.hands(master));
            to.add(house.lawful(master));
        }
        for (int person = 0; person < PEOPLE; person++) {
            to.add(house.leave(person) ? 1 : 0);
        }
        to.add(house.count(7));
    }

    private static void whoseHands(GuildHouse house, List<Integer> to) {
        for (int person = 0; person < PEOPLE; person++) {
            for (int master = 0; master < 5; master++) {
                to.add(house.hire(master, person) ? 1 : 0);
            }
        }
    }

    /** Hires hand after hand, so that the number in force shows. */
    private static void number(GuildHouse house, List<Integer> to, int days) {
        to.add(house.days(days));
        int master = 0;
        while (master < PEOPLE && house.hands(master) == NONE) {
            master++;
        }
        for (int person = 0; person < PEOPLE; person++) {
            to.add(house.hire(master, person) ? 1 : 0);
            to.add(house.lawful(master));
        }
    }

    private static void masters(GuildHouse house, List<Integer> to) {
        for (int person = 0; person < PEOPLE; person++) {
            to.add(house.master(person) ? 1 : 0);
        }
        int now = house.count(0);
        to.add(house.count(2));
        for (int person = 0; person < PEOPLE; person++) {
            to.add(house.value(person, 5, now, now));
        }
    }

    private static void deaths(GuildHouse house, List<Integer> to) {
        for (int person = 0; person < PEOPLE; person++) {
            to.add(house.death(person, NONE) ? 1 : 0);
            to.add(house.give(person, 0, 0) ? 1 : 0);
        }
        to.add(house.count(2));
        to.add(house.count(7));
    }

    /** Cuts the text byte by byte: each place at which a fault begins shows. */
    private static void text(GuildHouse house, List<Integer> to) {
        int length = house.count(6);
        for (int n = length; n >= 0; n--) {
            to.add(house.end(n) ? 1 : 0);
            to.add(house.fault());
        }
    }

    private static void textAsStatute(GuildHouse house, List<Integer> to) {
        int now = house.count(0);
        to.add(house.statute(now));
        for (int person = 0; person < PEOPLE; person++) {
            to.add(house.may(person, now, now));
        }
        to.add(house.feed('k' << 24 | '=' << 16 | '1' << 8));
        to.add(house.fault());
    }

    private static void roomForPeople(GuildHouse house, List<Integer> to) {
        for (int i = 0; i <= PEOPLE; i++) {
            to.add(house.person(NONE, NONE));
        }
        for (int person = 0; person < PEOPLE; person++) {
            to.add(house.piece(person, 5L));
            to.add(house.judge(house.count(5) - 1, 0));
        }
    }

    private static void roomForEdicts(GuildHouse house, List<Integer> to) {
        house.end(0);
        for (int i = 0; i <= 30; i++) {
            house.feed('k' << 24 | '=' << 16 | '1' << 8);
            to.add(house.statute(0));
            to.add(house.number(4, 0) ? 1 : 0);
        }
    }

    private static void roomForGifts(GuildHouse house, List<Integer> to) {
        for (int i = 0; i <= 100; i++) {
            to.add(house.give(i % 3, 1, 1) ? 1 : 0);
        }
    }

    private static void roomForTerms(GuildHouse house, List<Integer> to) {
        for (int i = 0; i <= 100; i++) {
            to.add(house.term(0, NONE, 0, 0));
        }
    }
}
