/** The edges that the document names of people, kin, masters, deaths and days: promises 1 to 5 and 25. */
public final class PeopleEdgeTest {
    private static final int NONE = GuildHouse.NONE;
    private static final int MIN = Integer.MIN_VALUE;
    private static final int MAX = Integer.MAX_VALUE;
    private static final Check check = new Check("PeopleEdgeTest");

    public static void main(String[] args) {
        newObject();
        firstAndLastDay();
        days();
        mostPeople();
        numbersOfPeople();
        upToTwoParents();
        parentsNotTold();
        parentOfTheOther();
        parentInCommon();
        kinToItself();
        kinOfOthers();
        masterFromTheDay();
        masterRefused();
        deathOfNoMaster();
        heirWhoIsNoMaster();
        deathAlike();
        deathWithoutHeir();
        deathWithHeir();
        check.finish();
    }

    private static void newObject() {
        check.says("Promise 1", "NOW 0, nobody");
        GuildHouse house = new GuildHouse();
        for (int what = 0; what <= 7; what++) {
            check.same("count(" + what + ")", house.count(what), 0);
        }
        check.no("kin(0, 0)", house.kin(0, 0));
        check.same("value(0, 0, 0, 0)", house.value(0, 0, 0, 0), NONE);
        check.same("the first is 0", house.person(NONE, NONE), 0);
        check.yes("kin(0, 0) then", house.kin(0, 0));
        GuildHouse another = new GuildHouse();
        check.same("another object has nobody", another.count(1), 0);
    }

    private static void firstAndLastDay() {
        check.says("Terms 1", "NOW is 0 at first, 20,000 at most");
        GuildHouse house = Check.houseOf(1);
        check.same("NOW at first", house.count(0), 0);
        check.same("q 0 is NOW", house.value(0, 0, 0, 0), 0);
        check.same("q 1 is behind NOW", house.value(0, 0, 0, 1), NONE);
        check.same("to 19,999", house.days(19999), 19999);
        check.same("to 20,000", house.days(1), 20000);
        check.same("NOW", house.count(0), 20000);
        check.same("q 20,000", house.value(0, 0, 0, 20000), 0);
        check.same("q 20,001", house.value(0, 0, 0, 20001), NONE);
        check.isNone("to 20,001", () -> Check.after(20000, Check.houseOf(2, 1)), h -> h.days(1));
    }

    private static void days() {
        check.says("Promise 5", "n DAYS go by (0 .. 20,000): NOW");
        check.same("days(0)", new GuildHouse().days(0), 0);
        check.same("days(1)", new GuildHouse().days(1), 1);
        check.same("days(20,000)", new GuildHouse().days(20000), 20000);
        GuildHouse house = Check.after(7, new GuildHouse());
        check.same("days(0) later", house.days(0), 7);
        check.same("days add up", house.days(5), 12);
        check.same("count(0)", house.count(0), 12);

        check.says("Promise 5", "NONE: n");
        for (int n : new int[] {-1, MIN, 20001, MAX}) {
            check.isNone("days(" + n + ")", () -> Check.houseOf(2, 1), h -> h.days(n));
            check.isNone("days(" + n + ") on 5", () -> Check.after(5, Check.houseOf(2, 1)), h -> h.days(n));
        }

        check.says("Promise 5", "or NOW would be above 20,000");
        check.same("5 and 19,995", Check.after(5, new GuildHouse()).days(19995), 20000);
        check.isNone("5 and 19,996", () -> Check.after(5, Check.houseOf(2, 1)), h -> h.days(19996));
        check.isNone("1 and 20,000", () -> Check.after(1, Check.houseOf(2, 1)), h -> h.days(20000));
        check.isNone("20,000 twice", () -> Check.after(20000, Check.houseOf(2, 1)), h -> h.days(20000));
        check.same("20,000 and 0", Check.after(20000, new GuildHouse()).days(0), 20000);
    }

    private static void mostPeople() {
        check.says("Terms 1", "PEOPLE (30 at most)");
        check.same("the 30th", Check.houseOf(29).person(NONE, NONE), 29);
        check.same("thirty", Check.houseOf(30).count(1), 30);
        check.isNone("the 31st", () -> Check.houseOf(30), h -> h.person(NONE, NONE));

        check.says("Promise 2", "there are 30");
        check.same("the 30th, a child", Check.houseOf(29).person(0, 28), 29);
        check.isNone("the 31st, a child", () -> Check.houseOf(30, 2), h -> h.person(0, 29));
        GuildHouse mourning = Check.houseOf(30, 1);
        mourning.death(0, NONE);
        check.same("the dead still count", mourning.person(NONE, NONE), NONE);
    }

    private static void numbersOfPeople() {
        check.says("Promise 2", "A PERSON: its number");
        GuildHouse house = new GuildHouse();
        for (int i = 0; i < 30; i++) {
            check.same("person", house.person(i - 1, NONE), i);
            check.same("count(1)", house.count(1), i + 1);
        }
    }

    private static void upToTwoParents() {
        check.says("Terms 1", "up to two parents (who were told before)");
        GuildHouse house = Check.houseOf(2);
        check.same("the first parent alone", house.person(0, NONE), 2);
        check.same("the other alone", house.person(NONE, 1), 3);
        check.same("both", house.person(0, 1), 4);
        check.same("the one told last", house.person(4, 4), 5);
        int[][] due = {{0, 0, 1, 0, 1, 0}, {0, 0, 0, 1, 1, 0}, {0, 0, 0, 0, 0, 0}, {0, 0, 0, 0, 0, 0}, {0, 0, 0, 0, 0, 1}};
        for (int one = 0; one < 2; one++) {
            for (int child = 2; child < 6; child++) {
                check.same("kin(" + one + ", " + child + ")", house.kin(one, child) ? 1 : 0, due[one][child]);
            }
        }
        check.yes("kin(4, 5)", house.kin(4, 5));
        check.isNone("itself", () -> Check.houseOf(2), h -> h.person(2, NONE));
        check.isNone("itself as the other", () -> Check.houseOf(2), h -> h.person(NONE, 2));
    }

    private static void parentsNotTold() {
        check.says("Promise 2", "parents are not told (NONE: not known)");
        check.same("not known", Check.houseOf(3).person(NONE, NONE), 3);
        check.same("the last that was told", Check.houseOf(3).person(2, 2), 3);
        for (int who : new int[] {3, 4, 29, 30, MAX, -2, MIN}) {
            check.isNone("person(" + who + ", NONE)", () -> Check.houseOf(3), h -> h.person(who, NONE));
            check.isNone("person(NONE, " + who + ")", () -> Check.houseOf(3), h -> h.person(NONE, who));
            check.isNone("person(0, " + who + ")", () -> Check.houseOf(3), h -> h.person(0, who));
        }
    }

    private static void parentOfTheOther() {
        check.says("Terms 1", "one is a parent of the other");
        GuildHouse house = Check.houseOf(2);
        house.person(0, 1);
        house.person(2, NONE);
        for (int parent = 0; parent < 2; parent++) {
            check.yes("a parent and the child", house.kin(parent, 2));
            check.yes("the child and a parent", house.kin(2, parent));
            check.no("a grandparent", house.kin(parent, 3));
            check.no("a grandchild", house.kin(3, parent));
        }
        check.no("the parents of one child", house.kin(0, 1));
    }

    private static void parentInCommon() {
        check.says("Terms 1", "both have a parent in common");
        int[][] siblings = {{0, NONE, 0, NONE}, {0, NONE, NONE, 0}, {NONE, 0, 0, NONE}, {NONE, 0, NONE, 0},
            {0, 1, 2, 1}, {0, 1, 1, 2}, {0, 1, 0, 1}, {0, 1, 1, 0}, {0, 0, 0, 0}};
        for (int[] each : siblings) {
            GuildHouse house = Check.houseOf(3);
            house.person(each[0], each[1]);
            house.person(each[2], each[3]);
            check.yes("siblings", house.kin(3, 4) && house.kin(4, 3));
        }
        int[][] strangers = {{NONE, NONE, NONE, NONE}, {0, NONE, 1, NONE}, {0, NONE, NONE, 1}, {NONE, 0, NONE, 1},
            {0, 1, 2, NONE}, {0, NONE, NONE, NONE}};
        for (int[] each : strangers) {
            GuildHouse house = Check.houseOf(3);
            house.person(each[0], each[1]);
            house.person(each[2], each[3]);
            check.no("strangers", house.kin(3, 4) || house.kin(4, 3));
        }
        GuildHouse house = Check.houseOf(1);
        house.person(0, NONE);
        house.person(0, NONE);
        house.person(1, NONE);
        house.person(2, NONE);
        check.no("a sibling's child", house.kin(2, 3));
        check.no("cousins", house.kin(3, 4));
    }

    private static void kinToItself() {
        check.says("Terms 1", "one is KIN to itself");
        GuildHouse house = Check.houseOf(30);
        check.yes("the first", house.kin(0, 0));
        check.yes("the last", house.kin(29, 29));
        check.no("two without parents", house.kin(0, 29));
    }

    private static void kinOfOthers() {
        check.says("Promise 25", "Whether two are KIN");
        check.yes("kin(0, 2)", Check.withChild(Check.houseOf(2), 0, NONE).kin(0, 2));
        check.no("kin(1, 2)", Check.withChild(Check.houseOf(2), 0, NONE).kin(1, 2));
        GuildHouse mourning = Check.withChild(Check.houseOf(2, 1), 0, NONE);
        mourning.death(0, NONE);
        check.yes("the dead stay kin", mourning.kin(0, 2));

        check.says("Promise 25", "False for others");
        for (int who : new int[] {3, 30, MAX, NONE, -2, MIN}) {
            check.isFalse("kin(" + who + ", 0)", () -> Check.withChild(Check.houseOf(2), 0, NONE), h -> h.kin(who, 0));
            check.isFalse("kin(2, " + who + ")", () -> Check.withChild(Check.houseOf(2), 0, NONE), h -> h.kin(2, who));
            check.isFalse("kin of one twice", () -> Check.withChild(Check.houseOf(2), 0, NONE), h -> h.kin(who, who));
        }
    }

    private static void masterFromTheDay() {
        check.says("Terms 1", "Some are MASTERS, from the DAY on which that was told");
        GuildHouse house = Check.after(10, Check.withChild(Check.houseOf(1), 0, NONE));
        check.same("no master before", house.hands(0), NONE);
        house.master(0);
        check.same("a master at once", house.hands(0), 0);
        house.days(10);
        check.same("k on that day", house.value(1, 5, 10, 20), 1);
        check.same("k the day before", house.value(1, 5, 9, 20), 0);
        check.same("k as known on that day", house.value(1, 5, 20, 10), 1);
        check.same("k as known the day before", house.value(1, 5, 20, 9), 0);
        check.same("still", house.hands(0), 0);
    }

    private static void masterRefused() {
        check.says("Promise 3", "A PERSON is a MASTER, NOW");
        GuildHouse house = Check.houseOf(30);
        check.yes("the first", house.master(0));
        check.yes("the last", house.master(29));
        check.same("masters", house.count(2), 2);

        check.says("Promise 3", "no such one");
        for (int who : new int[] {3, 30, MAX, NONE, -2, MIN}) {
            check.isFalse("master(" + who + ")", () -> Check.houseOf(3, 2), h -> h.master(who));
        }

        check.says("Promise 3", ", it is,");
        check.yes("who is none", Check.houseOf(3, 2).master(2));
        check.isFalse("who is one", () -> Check.houseOf(3, 2), h -> h.master(1));
        check.isFalse("who was told earlier", () -> Check.after(5, Check.withChild(Check.houseOf(3, 2), 1, NONE)),
                h -> h.master(1));

        check.says("Promise 3", "it is dead");
        check.isFalse("on the day", PeopleEdgeTest::afterADeath, h -> h.master(0));
        check.isFalse("later", () -> Check.after(9, afterADeath()), h -> h.master(0));
        check.yes("who is not dead", afterADeath().master(3));
    }

    /** Person 0 has died; 1 and 2 are masters, 3 and 4 are hands of 1. */
    private static GuildHouse afterADeath() {
        GuildHouse house = Check.houseOf(5, 3);
        house.hire(0, 3);
        house.hire(1, 4);
        house.death(0, 1);
        return house;
    }

    /** Masters 0, 1, 2; hands 3 and 2 of master 0, 4 of master 1, 0 of master 2. */
    private static GuildHouse shops() {
        GuildHouse house = Check.houseOf(6, 3);
        house.hire(2, 0);
        house.hire(0, 3);
        house.hire(0, 2);
        house.hire(1, 4);
        return house;
    }

    private static void deathOfNoMaster() {
        check.says("Promise 4", "no such MASTERS");
        for (int who : new int[] {3, 5, 6, 30, MAX, NONE, -2, MIN}) {
            check.isFalse("death(" + who + ", 1)", PeopleEdgeTest::shops, h -> h.death(who, 1));
            check.isFalse("death(" + who + ", NONE)", PeopleEdgeTest::shops, h -> h.death(who, NONE));
        }
        check.isFalse("who has died", PeopleEdgeTest::afterADeath, h -> h.death(0, 1));
        check.isFalse("who has died, without an heir", PeopleEdgeTest::afterADeath, h -> h.death(0, NONE));
        check.yes("the last master", shops().death(2, NONE));
    }

    private static void heirWhoIsNoMaster() {
        check.says("Promise 4", "another one takes the HANDS");
        for (int heir : new int[] {3, 5, 6, 30, MAX, -2, MIN}) {
            check.isFalse("death(0, " + heir + ")", PeopleEdgeTest::shops, h -> h.death(0, heir));
        }
        check.isFalse("an heir who has died", PeopleEdgeTest::afterADeath, h -> h.death(1, 0));
        check.yes("an heir who is a master", shops().death(0, 2));
    }

    private static void deathAlike() {
        check.says("Promise 4", "alike");
        check.isFalse("death(0, 0)", PeopleEdgeTest::shops, h -> h.death(0, 0));
        check.isFalse("death(NONE, NONE)", PeopleEdgeTest::shops, h -> h.death(NONE, NONE));
        check.isFalse("death(5, 5)", PeopleEdgeTest::shops, h -> h.death(5, 5));
        check.yes("death(0, 1)", shops().death(0, 1));
    }

    private static void deathWithoutHeir() {
        check.says("Promise 4", "(heir NONE: they are HANDS no more)");
        GuildHouse house = shops();
        check.yes("death(0, NONE)", house.death(0, NONE));
        check.same("the hand of master 1 stays", house.count(7), 1);
        check.no("hand 3 is none", house.leave(3));
        check.no("hand 2 is none", house.leave(2));
        check.yes("hand 4 is one", house.leave(4));
        check.same("masters", house.count(2), 2);
        check.same("people", house.count(1), 6);
    }

    private static void deathWithHeir() {
        check.says("Promise 4", "A MASTER dies");
        GuildHouse house = shops();
        check.same("masters before", house.count(2), 3);
        check.yes("death(0, 1)", house.death(0, 1));
        check.same("masters then", house.count(2), 2);
        check.same("the heir has 2, 3 and 4", house.hands(1), 3);
        check.same("hands of the dead", house.hands(0), NONE);
        check.same("hands of all", house.count(7), 3);
    }
}
