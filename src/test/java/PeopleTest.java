/** Promises 1 to 5 and 25: a new object, person, master, death, days, kin. */
public final class PeopleTest {
    private static final int NONE = GuildHouse.NONE;
    private static final Check check = new Check("PeopleTest");

    public static void main(String[] args) {
        newObject();
        person();
        master();
        death();
        deathOfHands();
        fullHouse();
        days();
        kin();
        check.finish();
    }

    private static void newObject() {
        GuildHouse house = new GuildHouse();
        for (int what = 0; what <= 7; what++) {
            check.same("new: count(" + what + ")", house.count(what), 0);
        }
        check.same("new: force(0, 0)", house.force(0, 0), NONE);
        check.same("new: may(0, 0, 0)", house.may(0, 0, 0), NONE);
        check.same("new: hands(0)", house.hands(0), NONE);
        check.no("new: kin(0, 0)", house.kin(0, 0));
        check.no("new: leave(0)", house.leave(0));
        check.lookThrows(house, 0, 0);
    }

    private static void person() {
        GuildHouse house = new GuildHouse();
        check.same("person(0, NONE), itself", house.person(0, NONE), NONE);
        check.same("person(NONE, 0), itself", house.person(NONE, 0), NONE);
        check.same("person(-2, NONE)", house.person(-2, NONE), NONE);
        check.same("person(NONE, -2)", house.person(NONE, -2), NONE);
        check.same("count(1) after refusals", house.count(1), 0);
        check.same("person(NONE, NONE)", house.person(NONE, NONE), 0);
        check.same("person(0, NONE)", house.person(0, NONE), 1);
        check.same("person(NONE, 1)", house.person(NONE, 1), 2);
        check.same("person(1, 1)", house.person(1, 1), 3);
        check.same("person(MAX, 0)", house.person(Integer.MAX_VALUE, 0), NONE);
        check.same("person(0, MIN)", house.person(0, Integer.MIN_VALUE), NONE);
        for (int i = 4; i < 30; i++) {
            check.same("person", house.person(i - 1, 0), i);
        }
        check.same("the 31st person", house.person(NONE, NONE), NONE);
        check.same("count(1) of a full house", house.count(1), 30);
        GuildHouse mourning = Check.houseOf(1, 1);
        mourning.death(0, NONE);
        check.same("person(dead parent)", mourning.person(0, NONE), 1);
        check.same("count(1) has the dead", mourning.count(1), 2);
    }

    private static void master() {
        GuildHouse house = Check.houseOf(3);
        check.no("master(-1)", house.master(-1));
        check.no("master(3)", house.master(3));
        check.same("no masters yet", house.count(2), 0);
        check.yes("master(1)", house.master(1));
        check.no("master(1) again", house.master(1));
        check.same("count(2)", house.count(2), 1);
        check.yes("death(1)", house.death(1, NONE));
        check.no("master(dead)", house.master(1));
        check.same("count(2) without the dead", house.count(2), 0);
        check.yes("a hand may be a master too", house.master(0) && house.hire(0, 2) && house.master(2));
        check.same("still a hand", house.hands(0), 1);
    }

    private static void death() {
        GuildHouse house = Check.houseOf(5, 3);
        check.no("death(no master)", house.death(3, NONE));
        check.no("death(5)", house.death(5, NONE));
        check.no("death(NONE, NONE)", house.death(NONE, NONE));
        check.no("death alike", house.death(0, 0));
        check.no("heir no master", house.death(0, 3));
        check.no("heir no one", house.death(0, 9));
        check.no("heir -2", house.death(0, -2));
        check.same("count(2) after refusals", house.count(2), 3);
        check.yes("death(0, NONE)", house.death(0, NONE));
        check.no("death(0) again", house.death(0, NONE));
        check.no("heir dead", house.death(1, 0));
        check.yes("death(1, 2)", house.death(1, 2));
        check.same("count(2)", house.count(2), 1);
        check.same("hands of the dead", house.hands(0), NONE);
        check.same("lawful of the dead", house.lawful(0), NONE);
        check.no("give of the dead", house.give(0, 1, 1));
        check.same("piece of the dead", house.piece(0, 1L), NONE);
        check.no("hire by the dead", house.hire(0, 3));
        check.no("hire of the dead", house.hire(2, 0));
        check.same("term of the dead", house.term(0, 1, 0, 0), 0);
        check.same("term with the dead", house.term(3, 0, 0, 0), 1);
        check.yes("back of the dead's term", house.back(0));
    }

    private static void deathOfHands() {
        GuildHouse house = Check.houseOf(8, 3);
        house.hire(0, 3);
        house.hire(0, 4);
        house.hire(0, 1);
        house.hire(1, 5);
        house.hire(2, 0);
        house.hire(2, 6);
        check.yes("death(0, 1)", house.death(0, 1));
        check.same("heir's shop: 3, 4, 5, not the heir", house.hands(1), 3);
        check.same("the dead is no hand", house.hands(2), 1);
        check.no("leave(the dead)", house.leave(0));
        check.no("leave(the heir)", house.leave(1));
        check.same("count(7)", house.count(7), 4);
        house.hire(2, 1);
        check.yes("death(1, NONE)", house.death(1, NONE));
        check.same("without an heir hands are none", house.count(7), 1);
        check.no("leave(3)", house.leave(3));
        check.yes("hire(2, 3)", house.hire(2, 3));

        GuildHouse other = Check.houseOf(4, 3);
        other.hire(2, 1);
        other.death(0, 1);
        check.same("an heir stays a hand elsewhere", other.hands(2), 1);
        other.hire(1, 2);
        other.death(2, 1);
        check.same("the dead was a hand of the heir", other.hands(1), 0);
    }

    private static void fullHouse() {
        GuildHouse house = Check.houseOf(30, 30);
        for (int hand = 0; hand < 30; hand++) {
            check.same("hire", house.hire(29, hand) ? 1 : 0, hand < 29 ? 1 : 0);
        }
        check.same("29 hands", house.hands(29), 29);
        check.yes("death(29, 0)", house.death(29, 0));
        check.same("28 hands: the heir is none", house.hands(0), 28);
        check.same("count(2)", house.count(2), 29);
        check.same("count(7)", house.count(7), 28);
        check.yes("death(0, NONE)", house.death(0, NONE));
        check.same("count(7) then", house.count(7), 0);
    }

    private static void days() {
        GuildHouse house = new GuildHouse();
        check.same("days(0)", house.days(0), 0);
        check.same("days(-1)", house.days(-1), NONE);
        check.same("days(20001)", house.days(20001), NONE);
        check.same("days(MAX)", house.days(Integer.MAX_VALUE), NONE);
        check.same("days(MIN)", house.days(Integer.MIN_VALUE), NONE);
        check.same("days(1)", house.days(1), 1);
        check.same("days(20000) from 1", house.days(20000), NONE);
        check.same("NOW stays", house.count(0), 1);
        check.same("days(19999)", house.days(19999), 20000);
        check.same("days(1) at the end", house.days(1), NONE);
        check.same("days(0) at the end", house.days(0), 20000);
        check.same("days(20000) at once", new GuildHouse().days(20000), 20000);
    }

    private static void kin() {
        GuildHouse house = Check.houseOf(3);
        house.person(0, 1);
        house.person(1, 2);
        house.person(NONE, 2);
        house.person(3, NONE);
        boolean[][] due = new boolean[7][7];
        int[][] pairs = {{0, 3}, {1, 3}, {1, 4}, {2, 4}, {2, 5}, {3, 6}, {3, 4}, {4, 5}};
        for (int[] pair : pairs) {
            due[pair[0]][pair[1]] = true;
            due[pair[1]][pair[0]] = true;
        }
        for (int one = 0; one < 7; one++) {
            due[one][one] = true;
            for (int other = 0; other < 7; other++) {
                check.same("kin(" + one + ", " + other + ")", house.kin(one, other) ? 1 : 0,
                        due[one][other] ? 1 : 0);
            }
        }
        check.no("kin(7, 7)", house.kin(7, 7));
        check.no("kin(0, 7)", house.kin(0, 7));
        check.no("kin(NONE, 0)", house.kin(NONE, 0));
        check.no("kin(0, NONE), parent not known", house.kin(0, NONE));
        check.no("kin(NONE, NONE)", house.kin(NONE, NONE));
        house.master(0);
        house.death(0, NONE);
        check.yes("the dead are kin", house.kin(3, 0));
    }
}
