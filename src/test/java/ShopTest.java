/** Promises 20 to 24 and 27: hire, leave, number, hands, lawful, count. */
public final class ShopTest {
    private static final int NONE = GuildHouse.NONE;
    private static final Check check = new Check("ShopTest");

    public static void main(String[] args) {
        hire();
        leave();
        number();
        numberInForce();
        lawfulAfterDeath();
        excessIsOfTheHeirAlone();
        count();
        check.finish();
    }

    private static void hire() {
        GuildHouse house = Check.houseOf(6, 2);
        check.no("hire(-1, 3)", house.hire(-1, 3));
        check.no("hire(6, 3)", house.hire(6, 3));
        check.no("hire(no master, 3)", house.hire(2, 3));
        check.no("hire(0, -1)", house.hire(0, -1));
        check.no("hire(0, 6)", house.hire(0, 6));
        check.no("hire itself", house.hire(0, 0));
        check.same("refused: no hands", house.count(7), 0);
        check.yes("hire(0, 3)", house.hire(0, 3));
        check.no("it is so", house.hire(0, 3));
        check.yes("of another one", house.hire(1, 3));
        check.same("no more of the first", house.hands(0), 0);
        check.same("of the second", house.hands(1), 1);
        check.yes("a master as a hand", house.hire(0, 1));
        check.yes("each a hand of the other", house.hire(1, 0));
        check.same("hands(1)", house.hands(1), 2);
        check.same("count(7)", house.count(7), 3);
        check.same("hands(no master)", house.hands(2), NONE);
        check.same("hands(-1)", house.hands(-1), NONE);
        check.same("hands(6)", house.hands(6), NONE);
        house.death(0, NONE);
        check.no("hire(1, dead)", house.hire(1, 0));
        check.same("the dead is a hand no more", house.hands(1), 1);
    }

    private static void leave() {
        GuildHouse house = Check.houseOf(3, 1);
        check.no("leave(-1)", house.leave(-1));
        check.no("leave(3)", house.leave(3));
        check.no("leave(0)", house.leave(0));
        house.hire(0, 2);
        check.no("leave(1)", house.leave(1));
        check.yes("leave(2)", house.leave(2));
        check.no("leave(2) again", house.leave(2));
        check.same("hands(0)", house.hands(0), 0);
        check.yes("hire again", house.hire(0, 2));
    }

    private static void number() {
        GuildHouse house = Check.houseOf(2, 1);
        house.hire(0, 1);
        check.no("number(-1, 0)", house.number(-1, 0));
        check.no("number(31, 0)", house.number(31, 0));
        check.no("from -1", house.number(0, -1));
        check.no("from 20001", house.number(0, 20001));
        check.same("refused: lawful", house.lawful(0), 1);
        check.yes("number(0, 0)", house.number(0, 0));
        check.same("one is too many", house.lawful(0), 0);
        check.yes("number(30, 0)", house.number(30, 0));
        check.same("told last", house.lawful(0), 1);
        check.yes("from 20000", house.number(0, 20000));
        for (int i = 3; i < 29; i++) {
            check.yes("number", house.number(i, 0));
        }
        check.yes("the 30th", house.number(0, 0));
        check.same("the 30th is in force", house.lawful(0), 0);
        check.no("the 31st", house.number(30, 0));
        check.same("refused: stays", house.lawful(0), 0);
    }

    private static void numberInForce() {
        GuildHouse house = Check.houseOf(8, 1);
        house.days(10);
        for (int i = 1; i <= 3; i++) {
            house.hire(0, i);
        }
        check.same("three by custom", house.lawful(0), 1);
        house.hire(0, 4);
        check.same("four by custom", house.lawful(0), 0);
        house.number(4, 10);
        check.same("four", house.lawful(0), 1);
        house.number(2, 9);
        check.same("from 9 is behind from 10", house.lawful(0), 1);
        house.number(3, 11);
        check.same("from 11 is to come", house.lawful(0), 1);
        house.days(1);
        check.same("from 11", house.lawful(0), 0);
        house.number(4, 11);
        check.same("from 11, told last", house.lawful(0), 1);
        house.hire(0, 5);
        check.same("five", house.lawful(0), 0);
        check.same("lawful(no master)", house.lawful(1), NONE);
        check.same("lawful(8)", house.lawful(8), NONE);
        check.same("lawful(-1)", house.lawful(-1), NONE);
    }

    private static void lawfulAfterDeath() {
        GuildHouse house = Check.houseOf(10, 3);
        for (int i = 3; i < 6; i++) {
            house.hire(0, i);
            house.hire(1, i + 3);
        }
        house.days(7);
        house.death(0, 1);
        check.same("six hands", house.hands(1), 6);
        check.same("on the day", house.lawful(1), 1);
        house.days(100);
        check.same("on the 100th day behind", house.lawful(1), 1);
        house.hire(1, 9);
        check.same("one more within the days", house.lawful(1), 1);
        house.days(1);
        check.same("behind the 100th day", house.lawful(1), 0);
        house.death(2, 1);
        check.same("again, by an heir of none", house.lawful(1), 1);
        house.days(101);
        check.same("over again", house.lawful(1), 0);
        house.number(7, 0);
        check.same("seven are allowed", house.lawful(1), 1);
    }

    private static void excessIsOfTheHeirAlone() {
        GuildHouse house = Check.houseOf(10, 4);
        for (int i = 4; i < 9; i++) {
            house.hire(0, i);
        }
        check.same("five", house.lawful(0), 0);
        house.death(3, NONE);
        check.same("none takes the hands", house.lawful(0), 0);
        house.death(2, 1);
        check.same("another is the heir", house.lawful(0), 0);
        check.same("the heir", house.lawful(1), 1);
        house.days(60);
        house.death(0, 1);
        house.days(60);
        check.same("days begin anew", house.lawful(1), 1);
        house.days(41);
        check.same("and end", house.lawful(1), 0);
    }

    private static void count() {
        GuildHouse house = Check.houseOf(7, 4);
        house.days(9);
        house.term(4, 0, 0, 5);
        house.term(5, NONE, 0, 5);
        house.back(0);
        Check.statute(house, "d<9", 3);
        Check.write(house, "d<99|");
        house.piece(4, 1L);
        house.hire(0, 6);
        house.hire(1, 2);
        house.hire(1, 5);
        house.death(3, NONE);
        int[] due = {9, 7, 3, 2, 1, 1, 5, 3};
        for (int what = 0; what < 8; what++) {
            check.same("count(" + what + ")", house.count(what), due[what]);
        }
        check.same("count(-1)", house.count(-1), NONE);
        check.same("count(8)", house.count(8), NONE);
        check.same("count(MAX)", house.count(Integer.MAX_VALUE), NONE);
    }
}
