import java.util.NoSuchElementException;

/** Counts answers that are not as due, and small helps that several tests share. */
final class Check {
    private final String name;
    private int asked = 0;
    private int wrong = 0;

    Check(String name) {
        this.name = name;
    }

    void same(String call, long got, long due) {
        asked++;
        if (got != due) {
            wrong++;
            System.out.println(name + ": " + call + " answered " + got + ", due is " + due);
        }
    }

    void yes(String call, boolean got) {
        same(call, got ? 1 : 0, 1);
    }

    void no(String call, boolean got) {
        same(call, got ? 1 : 0, 0);
    }

    void lookThrows(GuildHouse house, int term, int what) {
        boolean thrown = false;
        try {
            house.look(term, what);
        } catch (NoSuchElementException e) {
            thrown = e.getClass() == NoSuchElementException.class;
        }
        yes("look(" + term + ", " + what + ") throws", thrown);
    }

    void finish() {
        System.out.println(name + ": " + asked + " answers, " + wrong + " not as due");
        if (wrong != 0) {
            System.exit(1);
        }
    }

    /** A house with so many people without known parents. */
    static GuildHouse houseOf(int people) {
        GuildHouse house = new GuildHouse();
        for (int i = 0; i < people; i++) {
            house.person(GuildHouse.NONE, GuildHouse.NONE);
        }
        return house;
    }

    /** A house of so many people, the first of whom are masters. */
    static GuildHouse houseOf(int people, int masters) {
        GuildHouse house = houseOf(people);
        for (int i = 0; i < masters; i++) {
            house.master(i);
        }
        return house;
    }

    /** Feeds a text, four bytes a call; the last answer. */
    static int write(GuildHouse house, String text) {
        int answer = house.count(6);
        for (int i = 0; i < text.length(); i += 4) {
            int bytes = 0;
            for (int k = i; k < i + 4; k++) {
                bytes = bytes << 8 | (k < text.length() ? text.charAt(k) : 0);
            }
            answer = house.feed(bytes);
        }
        return answer;
    }

    static int statute(GuildHouse house, String text, int from) {
        write(house, text);
        return house.statute(from);
    }

    /** All twelve points of a piece: each judge gives part p the points at p. */
    static void markAll(GuildHouse house, int piece, int... points) {
        for (int i = 0; i < 3; i++) {
            for (int part = 0; part < 4; part++) {
                house.mark(piece, i, part, points[part]);
            }
        }
    }
}
