import java.util.NoSuchElementException;
import java.util.function.Consumer;
import java.util.function.Predicate;
import java.util.function.Supplier;
import java.util.function.ToIntFunction;

/** Counts answers that are not as due, and small helps that several tests share. */
final class Check {
    private final String name;
    private int asked = 0;
    private int wrong = 0;
    private String sentence = "";

    Check(String name) {
        this.name = name;
    }

    void same(String call, long got, long due) {
        asked++;
        if (got != due) {
            wrong++;
            System.out.println(name + ": " + sentence + call + " answered " + got + ", due is " + due);
        }
    }

    void yes(String call, boolean got) {
        same(call, got ? 1 : 0, 1);
    }

    void no(String call, boolean got) {
        same(call, got ? 1 : 0, 0);
    }

    /** What is asked from here on holds to these words of the document; DocumentTest finds them there. */
    void says(String section, String words) {
        sentence = section + " '" + words + "': ";
    }

    /** A call that is refused with NONE and changes nothing. */
    void isNone(String call, Supplier<GuildHouse> house, ToIntFunction<GuildHouse> refused) {
        same(call, refused.applyAsInt(house.get()), GuildHouse.NONE);
        changesNothing(call, house, refused::applyAsInt);
    }

    /** A call that is refused with false and changes nothing. */
    void isFalse(String call, Supplier<GuildHouse> house, Predicate<GuildHouse> refused) {
        no(call, refused.test(house.get()));
        changesNothing(call, house, refused::test);
    }

    /** A look that throws and changes nothing. */
    void isThrown(Supplier<GuildHouse> house, int term, int what) {
        lookThrows(house.get(), term, what);
        changesNothing("look(" + term + ", " + what + ")", house, each -> tryLook(each, term, what));
    }

    /** The same house made twice, with the call and without it, answers alike whatever comes then. */
    void changesNothing(String call, Supplier<GuildHouse> house, Consumer<GuildHouse> made) {
        for (Probes.Probe probe : Probes.ALL) {
            GuildHouse without = house.get();
            GuildHouse with = house.get();
            made.accept(with);
            int differs = Probes.firstUnlike(probe.ask(without), probe.ask(with));
            same(call + ", then the first answer that it changed in " + probe.name(), differs, GuildHouse.NONE);
        }
    }

    private static void tryLook(GuildHouse house, int term, int what) {
        try {
            house.look(term, what);
        } catch (NoSuchElementException e) {
            return;
        }
    }

    void lookThrows(GuildHouse house, int term, int what) {
        boolean thrown = false;
        try {
            house.look(term, what);
        } catch (NoSuchElementException e) {
            thrown = e.getClass() == NoSuchElementException.class;
        }
        yes("look(" + term + ", " + what + ") throws", thrown);
    }

    void finish() {
        System.out.println(name + ": " + asked + " answers, " + wrong + " not as due");
        if (wrong != 0) {
            System.exit(1);
        }
    }

    /** A house with so many people without known parents. */
    static GuildHouse houseOf(int people) {
        GuildHouse house = new GuildHouse();
        for (int i = 0; i < people; i++) {
            house.person(GuildHouse.NONE, GuildHouse.NONE);
        }
        return house;
    }

    /** A house of so many people, the first of whom are masters. */
    static GuildHouse houseOf(int people, int masters) {
        GuildHouse house = houseOf(people);
        for (int i = 0; i < masters; i++) {
            house.master(i);
        }
        return house;
    }

    /** The house, with a person more of these parents. */
    static GuildHouse withChild(GuildHouse house, int parent, int other) {
        house.person(parent, other);
        return house;
    }

    /** The house, so many days later. */
    static GuildHouse after(int days, GuildHouse house) {
        house.days(days);
        return house;
    }

    /** The house with a text that is no statute yet. */
    static GuildHouse withText(GuildHouse house, String text) {
        write(house, text);
        return house;
    }

    /** Feeds a text, four bytes a call; the last answer. */
    static int write(GuildHouse house, String text) {
        int answer = house.count(6);
        for (int i = 0; i < text.length(); i += 4) {
            int bytes = 0;
            for (int k = i; k < i + 4; k++) {
                bytes = bytes << 8 | (k < text.length() ? text.charAt(k) : 0);
            }
            answer = house.feed(bytes);
        }
        return answer;
    }

    static int statute(GuildHouse house, String text, int from) {
        write(house, text);
        return house.statute(from);
    }

    /** All twelve points of a piece: each judge gives part p the points at p. */
    static void markAll(GuildHouse house, int piece, int... points) {
        for (int i = 0; i < 3; i++) {
            for (int part = 0; part < 4; part++) {
                house.mark(piece, i, part, points[part]);
            }
        }
    }
}
