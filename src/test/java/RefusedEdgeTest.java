import java.util.function.Consumer;
import java.util.function.Predicate;
import java.util.function.ToIntFunction;

/** What the document says of all that is refused, and of the dead. */
public final class RefusedEdgeTest {
    private static final int NONE = GuildHouse.NONE;
    private static final int[] WRONG = {Integer.MIN_VALUE, -2, NONE, 31, 120, 20001, Integer.MAX_VALUE};
    private static final Check check = new Check("RefusedEdgeTest");

    public static void main(String[] args) {
        refusedWithNone();
        refusedWithFalse();
        askingChangesNothing();
        noMastersAnyMore();
        noMastersFromThatDay();
        norHands();
        nothingIsToldOfTheDead();
        butTerms();
        theDeadAreStillKnown();
        lastOfManyCalls();
        check.finish();
    }

    /**
     * Day 40: masters 0, 1, 2 and 3, of whom 3 has died; 4 is a child of 0 and 1 and has an open
     * piece; hands, terms, gifts, statutes, numbers and a text that is not whole.
     */
    private static GuildHouse full() {
        GuildHouse house = Check.houseOf(4, 4);
        house.person(0, NONE);
        house.person(NONE, NONE);
        house.person(4, 5);
        house.person(NONE, NONE);
        house.days(30);
        house.term(4, 5, 0, 10);
        house.term(4, NONE, 5, 15);
        house.term(5, 3, 2, 2);
        house.give(4, 2, 300);
        house.give(3, 1, 10);
        Check.statute(house, "d>5|l=0", 20);
        house.number(2, 10);
        house.hire(0, 5);
        house.hire(3, 6);
        house.hire(3, 7);
        house.hire(1, 3);
        house.piece(4, 77L);
        house.mark(0, 0, 0, 5);
        house.mark(0, 2, 3, 4);
        house.days(10);
        house.back(1);
        house.death(3, 2);
        Check.write(house, "(k=1&d<");
        return house;
    }

    private static void none(String call, ToIntFunction<GuildHouse> refused) {
        check.isNone(call, RefusedEdgeTest::full, refused);
    }

    private static void not(String call, Predicate<GuildHouse> refused) {
        check.isFalse(call, RefusedEdgeTest::full, refused);
    }

    private static void refusedWithNone() {
        check.says("Refused", "What is refused answers as told");
        for (int wrong : WRONG) {
            String of = " of " + wrong;
            if (wrong != NONE) {
                none("person" + of, h -> h.person(wrong, 0));
                none("person, other" + of, h -> h.person(0, wrong));
                none("term, master" + of, h -> h.term(4, wrong, 0, 1));
            }
            if (wrong < 0 || wrong > 20000) {
                none("days" + of, h -> h.days(wrong));
                none("force, d" + of, h -> h.force(wrong, 40));
                none("value, d" + of, h -> h.value(4, 0, wrong, 40));
                none("may, d" + of, h -> h.may(4, wrong, 40));
            }
            if (wrong < 0 || wrong > 40) {
                none("force, q" + of, h -> h.force(40, wrong));
                none("value, q" + of, h -> h.value(4, 0, 40, wrong));
                none("may, q" + of, h -> h.may(4, 40, wrong));
                none("term, to" + of, h -> h.term(4, 0, 0, wrong));
            }
            if (wrong < 0 || wrong > 1) {
                none("term, from" + of, h -> h.term(4, 0, wrong, 1));
            }
            none("term" + of, h -> h.term(wrong, 0, 0, 1));
            none("value" + of, h -> h.value(wrong, 0, 40, 40));
            none("value, what" + of, h -> h.value(4, wrong, 40, 40));
            none("may" + of, h -> h.may(wrong, 40, 40));
            none("piece" + of, h -> h.piece(wrong, 1L));
            none("judge" + of, h -> h.judge(wrong, 0));
            none("judge, i" + of, h -> h.judge(0, wrong));
            none("told" + of, h -> h.told(wrong, 0));
            none("told, what" + of, h -> h.told(0, wrong));
            none("hands" + of, h -> h.hands(wrong));
            none("lawful" + of, h -> h.lawful(wrong));
            none("count" + of, h -> h.count(wrong));
            check.isThrown(RefusedEdgeTest::full, wrong, 0);
            check.isThrown(RefusedEdgeTest::full, 0, wrong);
        }
        none("statute of a fault", h -> h.statute(0));
        none("piece while one is not done", h -> h.piece(4, 1L));
    }

    private static void refusedWithFalse() {
        check.says("Refused", "and changes nothing");
        for (int wrong : WRONG) {
            String of = " of " + wrong;
            not("master" + of, h -> h.master(wrong));
            not("death" + of, h -> h.death(wrong, 1));
            not("back" + of, h -> h.back(wrong));
            not("give" + of, h -> h.give(wrong, 1, 1));
            not("give, letters" + of, h -> h.give(4, wrong, 1));
            not("end" + of, h -> h.end(wrong));
            not("mark" + of, h -> h.mark(wrong, 1, 1, 5));
            not("mark, i" + of, h -> h.mark(0, wrong, 1, 5));
            not("mark, part" + of, h -> h.mark(0, 1, wrong, 5));
            not("mark, points" + of, h -> h.mark(0, 1, 1, wrong));
            not("hire" + of, h -> h.hire(wrong, 4));
            not("hire, person" + of, h -> h.hire(1, wrong));
            not("leave" + of, h -> h.leave(wrong));
            not("number" + of, h -> h.number(wrong, 40));
            not("kin" + of, h -> h.kin(wrong, 4));
            if (wrong != NONE) {
                not("death, heir" + of, h -> h.death(1, wrong));
            }
            if (wrong < 0 || wrong > 9999) {
                not("give, coins" + of, h -> h.give(4, 1, wrong));
            }
            if (wrong < 0 || wrong > 20000) {
                not("number, from" + of, h -> h.number(1, wrong));
            }
        }
    }

    private static void asked(String call, Consumer<GuildHouse> question) {
        check.changesNothing(call, RefusedEdgeTest::full, question);
    }

    private static void askingChangesNothing() {
        for (int what = 0; what <= 7; what++) {
            int which = what;
            asked("count", h -> h.count(which));
            if (what <= 6) {
                asked("value", h -> h.value(4, which, 40, 40));
            }
            if (what <= 5) {
                asked("told", h -> h.told(0, which));
                asked("look", h -> h.look(0, which));
            }
        }
        asked("fault", GuildHouse::fault);
        asked("force", h -> h.force(40, 40));
        asked("may", h -> h.may(4, 40, 40));
        asked("judge", h -> h.judge(0, 1));
        asked("hands", h -> h.hands(2));
        asked("lawful", h -> h.lawful(2));
        asked("kin", h -> h.kin(0, 4));
    }

    /** Five masters; 0 has hands 5 and 6, and is a hand of 1; then 0 dies and 2 is the heir. */
    private static GuildHouse mourning() {
        GuildHouse house = Check.withChild(Check.houseOf(8, 5), 0, NONE);
        house.days(20);
        house.hire(0, 5);
        house.hire(0, 6);
        house.hire(1, 0);
        house.death(0, 2);
        return house;
    }

    private static void refusedOfTheDead(String call, Predicate<GuildHouse> refused) {
        check.isFalse(call + " on the day", RefusedEdgeTest::mourning, refused);
        check.isFalse(call + " a day later", () -> Check.after(1, mourning()), refused);
    }

    private static void noMastersAnyMore() {
        check.says("Refused", "The dead are no MASTERS any more");
        check.same("masters", mourning().count(2), 4);
        refusedOfTheDead("hire by the dead", h -> h.hire(0, 7));
        refusedOfTheDead("death of the dead", h -> h.death(0, 1));
        refusedOfTheDead("death of the dead without an heir", h -> h.death(0, NONE));
        refusedOfTheDead("the dead as an heir", h -> h.death(1, 0));
        check.isNone("hands", RefusedEdgeTest::mourning, h -> h.hands(0));
        check.isNone("lawful", RefusedEdgeTest::mourning, h -> h.lawful(0));
        check.yes("the living hire", mourning().hire(1, 7));
        check.yes("the living die", mourning().death(1, 2));
    }

    private static void noMastersFromThatDay() {
        check.says("Refused", "(from that DAY on)");
        for (long seed = 0; seed < 20; seed++) {
            GuildHouse house = mourning();
            int piece = house.piece(7, seed);
            for (int i = 0; i < 3; i++) {
                check.no("the dead do not judge on that day", house.judge(piece, i) == 0);
            }
        }
        GuildHouse before = Check.houseOf(4, 3);
        before.piece(3, 1L);
        before.death(before.judge(0, 0), NONE);
        check.yes("who was drawn before stays the judge", before.judge(0, 0) >= 0);
        GuildHouse three = Check.houseOf(4, 3);
        three.death(0, NONE);
        check.same("two are left on that day", three.piece(3, 1L), NONE);
        check.same("a master before that day", mourning().value(8, 5, 19, 20), 1);
    }

    private static void norHands() {
        check.says("Refused", "nor HANDS");
        GuildHouse house = mourning();
        check.same("of master 1", house.hands(1), 0);
        check.same("of all", house.count(7), 2);
        refusedOfTheDead("leave", h -> h.leave(0));
        refusedOfTheDead("hire of the dead", h -> h.hire(1, 0));
        refusedOfTheDead("hire of the dead by the heir", h -> h.hire(2, 0));
        GuildHouse heir = Check.houseOf(3, 2);
        heir.hire(1, 0);
        heir.death(0, 1);
        check.same("the dead was a hand of the heir", heir.hands(1), 0);
        GuildHouse none = Check.houseOf(3, 2);
        none.hire(1, 0);
        none.death(0, NONE);
        check.same("the dead without an heir", none.hands(1), 0);
    }

    private static void nothingIsToldOfTheDead() {
        check.says("Refused", "nothing is told of them");
        refusedOfTheDead("master", h -> h.master(0));
        refusedOfTheDead("give", h -> h.give(0, 1, 1));
        refusedOfTheDead("give of nothing", h -> h.give(0, 0, 0));
        check.isNone("piece", RefusedEdgeTest::mourning, h -> h.piece(0, 1L));
        check.isNone("piece a day later", () -> Check.after(1, mourning()), h -> h.piece(0, 1L));
        check.yes("give of the living", mourning().give(1, 1, 1));
    }

    private static void butTerms() {
        check.says("Refused", "but TERMS");
        GuildHouse house = mourning();
        check.same("of the dead", house.term(0, 1, 3, 7), 0);
        check.same("with the dead", house.term(7, 0, 3, 7), 1);
        check.same("of the dead on the road", house.term(0, NONE, 7, 9), 2);
        check.same("up to this day", house.term(0, 1, 20, 20), 3);
        check.same("served by the dead", house.value(0, 0, 20, 20), 6);
        check.same("road of the dead", house.value(0, 1, 20, 20), 2);
        check.same("served with the dead", house.value(7, 0, 20, 20), 5);
        check.yes("taken back", house.back(0));
        check.same("served by the dead then", house.value(0, 0, 20, 20), 1);
    }

    private static void theDeadAreStillKnown() {
        GuildHouse house = full();
        check.same("people", house.count(1), 8);
        check.same("letters", house.value(3, 2, 40, 40), 1);
        check.same("fees", house.value(3, 3, 40, 40), 10);
        check.same("may", house.may(3, 10, 40), 1);
        check.yes("kin to itself", house.kin(3, 3));
        check.same("a child of the dead", house.person(3, NONE), 8);
        check.yes("kin of the dead", house.kin(8, 3));
        check.same("k of that child", house.value(8, 5, 40, 40), 1);
    }

    /** An object is used for at most 512 calls: the last of them answers as the first. */
    private static void lastOfManyCalls() {
        GuildHouse house = new GuildHouse();
        int calls = 0;
        for (int i = 0; i < 30; i++, calls++) {
            house.person(NONE, NONE);
        }
        for (int i = 0; i < 30; i++, calls++) {
            house.master(i);
        }
        for (; calls < 510; calls++) {
            house.days(calls % 2);
        }
        check.same("the 511th", house.count(2), 30);
        check.same("the 512th", house.days(1), 226);
        for (int i = 0; i < 1000; i++) {
            house.term(0, 1, 0, i);
            house.give(0, 1, 1);
            house.number(1, i);
            house.feed('k' << 24 | '=' << 16 | '1' << 8);
            house.statute(i);
            house.piece(0, i);
        }
        check.yes("what comes later is free, but does not throw", true);
    }
}
