/** The edges that the document names of hands, shops and NUMBER, and of count: promises 20 to 24 and 27. */
public final class ShopEdgeTest {
    private static final int NONE = GuildHouse.NONE;
    private static final int MIN = Integer.MIN_VALUE;
    private static final int MAX = Integer.MAX_VALUE;
    private static final Check check = new Check("ShopEdgeTest");

    public static void main(String[] args) {
        oneShop();
        hireOfAnother();
        hireRefused();
        hireOfTheDead();
        hireItself();
        hireAgain();
        leave();
        number();
        mostNumbers();
        numberFromADay();
        numberInForce();
        atMostNumber();
        bothAreOneShop();
        heirWasAHand();
        hundredDays();
        hundredDaysAtTheEnd();
        daysNotOver();
        hands();
        lawful();
        count();
        check.finish();
    }

    /** Masters 0, 1, 2; so many hands of master 0, from person 3 on. */
    private static GuildHouse shop(int hands) {
        GuildHouse house = Check.houseOf(12, 3);
        for (int i = 0; i < hands; i++) {
            house.hire(0, 3 + i);
        }
        return house;
    }

    /** Master 0 with all others as hands. */
    private static GuildHouse greatestShop() {
        GuildHouse house = Check.houseOf(30, 1);
        for (int person = 1; person < 30; person++) {
            house.hire(0, person);
        }
        return house;
    }

    private static void oneShop() {
        check.says("Terms 4", "a PERSON may be a HAND in one MASTER's shop");
        GuildHouse house = shop(2);
        check.yes("hire(1, 3)", house.hire(1, 3));
        check.same("of master 0", house.hands(0), 1);
        check.same("of master 1", house.hands(1), 1);
        check.same("of all", house.count(7), 2);
        check.yes("leave", house.leave(3));
        check.no("leave again", house.leave(3));
        check.same("of master 1 then", house.hands(1), 0);
    }

    private static void hireOfAnother() {
        check.says("Promise 20", "A PERSON is a HAND of a MASTER (of another one no more)");
        GuildHouse house = shop(0);
        check.yes("the last person", house.hire(0, 11));
        check.same("one hand", house.hands(0), 1);
        check.yes("of another one", house.hire(2, 11));
        check.same("no more of the first", house.hands(0), 0);
        check.same("of the other", house.hands(2), 1);
        check.yes("of the first again", house.hire(0, 11));
        check.yes("a master", house.hire(0, 1));
        check.yes("by one's own hand", house.hire(1, 0));
        check.same("hands of all", house.count(7), 3);
        check.same("all others", greatestShop().hands(0), 29);
    }

    private static void hireRefused() {
        check.says("Promise 20", "no such ones");
        for (int who : new int[] {12, 30, MAX, NONE, -2, MIN}) {
            check.isFalse("hire(" + who + ", 5)", () -> shop(2), h -> h.hire(who, 5));
            check.isFalse("hire(0, " + who + ")", () -> shop(2), h -> h.hire(0, who));
            check.isFalse("hire of both", () -> shop(2), h -> h.hire(who, who));
        }
        check.isFalse("by one who is no master", () -> shop(2), h -> h.hire(3, 5));
        check.isFalse("a hand by one who is no master", () -> shop(2), h -> h.hire(5, 3));
        check.yes("the last master", shop(2).hire(2, 5));
    }

    private static GuildHouse mourning() {
        GuildHouse house = shop(2);
        house.death(1, NONE);
        return house;
    }

    private static void hireOfTheDead() {
        check.says("Promise 20", ", dead,");
        check.isFalse("a hand who is dead", ShopEdgeTest::mourning, h -> h.hire(0, 1));
        check.isFalse("a master who is dead", ShopEdgeTest::mourning, h -> h.hire(1, 5));
        check.isFalse("a day later", () -> Check.after(1, mourning()), h -> h.hire(0, 1));
        check.yes("who lives", mourning().hire(0, 2));
    }

    private static void hireItself() {
        check.says("Promise 20", "itself");
        check.isFalse("hire(0, 0)", () -> shop(2), h -> h.hire(0, 0));
        check.isFalse("hire(2, 2)", () -> shop(2), h -> h.hire(2, 2));
        check.isFalse("a hand elsewhere", () -> {
            GuildHouse house = shop(2);
            house.hire(0, 1);
            return house;
        }, h -> h.hire(1, 1));
        check.yes("hire(0, 2)", shop(2).hire(0, 2));
    }

    private static void hireAgain() {
        check.says("Promise 20", "it is so");
        check.isFalse("hire(0, 3)", () -> shop(2), h -> h.hire(0, 3));
        check.isFalse("hire(0, 4)", () -> shop(2), h -> h.hire(0, 4));
        check.yes("hire(0, 5)", shop(2).hire(0, 5));
        GuildHouse house = shop(2);
        house.leave(3);
        check.yes("who left", house.hire(0, 3));
        check.isFalse("who came by a death", () -> {
            GuildHouse heirs = shop(2);
            heirs.death(0, 1);
            return heirs;
        }, h -> h.hire(1, 3));
    }

    private static void leave() {
        check.says("Promise 21", "A PERSON is no HAND any more");
        GuildHouse house = shop(2);
        check.yes("leave(3)", house.leave(3));
        check.same("one is left", house.hands(0), 1);
        check.yes("leave(4)", house.leave(4));
        check.same("none is left", house.count(7), 0);
        GuildHouse great = greatestShop();
        check.yes("the last person", great.leave(29));
        check.same("28", great.hands(0), 28);

        check.says("Promise 21", "False: it is none");
        for (int who : new int[] {5, 11, 12, 30, MAX, NONE, -2, MIN, 0}) {
            check.isFalse("leave(" + who + ")", () -> shop(2), h -> h.leave(who));
        }
        check.isFalse("who left", () -> {
            GuildHouse left = shop(2);
            left.leave(3);
            return left;
        }, h -> h.leave(3));
        check.isFalse("an heir", () -> takenOver(3), h -> h.leave(1));
        check.isFalse("whose master died without an heir", () -> {
            GuildHouse left = shop(2);
            left.death(0, NONE);
            return left;
        }, h -> h.leave(3));
    }

    private static void number() {
        check.says("Promise 22", "NUMBER (0 .. 30) from a DAY on (0 .. 20,000) is told");
        GuildHouse none = shop(0);
        check.yes("number(0, 0)", none.number(0, 0));
        check.same("no hands are lawful", none.lawful(0), 1);
        none.hire(0, 3);
        check.same("one is too many", none.lawful(0), 0);
        GuildHouse great = greatestShop();
        check.same("29 by custom", great.lawful(0), 0);
        check.yes("number(30, 0)", great.number(30, 0));
        check.same("29 of 30", great.lawful(0), 1);
        great.number(28, 0);
        check.same("29 of 28", great.lawful(0), 0);
        great.number(29, 0);
        check.same("29 of 29", great.lawful(0), 1);
        GuildHouse last = Check.after(19999, shop(4));
        check.yes("from 20,000", last.number(4, 20000));
        check.same("the day before", last.lawful(0), 0);
        last.days(1);
        check.same("on 20,000", last.lawful(0), 1);

        check.says("Promise 22", "out of bounds");
        for (int wrong : new int[] {-1, MIN, MAX}) {
            check.isFalse("number " + wrong, () -> shop(4), h -> h.number(wrong, 0));
            check.isFalse("from " + wrong, () -> shop(4), h -> h.number(5, wrong));
        }
        check.isFalse("number 31", () -> shop(4), h -> h.number(31, 0));
        check.isFalse("from 20,001", () -> shop(4), h -> h.number(5, 20001));
    }

    private static GuildHouse withNumbers(int numbers) {
        GuildHouse house = shop(4);
        for (int i = 0; i < numbers; i++) {
            house.number(i % 4, 0);
        }
        return house;
    }

    private static void mostNumbers() {
        check.says("Promise 22", "30 were");
        GuildHouse house = withNumbers(29);
        check.same("four of 0", house.lawful(0), 0);
        check.yes("the 30th", house.number(4, 0));
        check.same("four of 4", house.lawful(0), 1);
        check.isFalse("the 31st", () -> withNumbers(30), h -> h.number(4, 0));
        check.isFalse("the 31st, from the last day", () -> withNumbers(30), h -> h.number(0, 20000));
        check.same("statutes have room of their own", Check.statute(withNumbers(30), "k=0", 0), 0);
    }

    private static void numberFromADay() {
        check.says("Terms 4", "told, from a DAY on, on a DAY");
        GuildHouse house = Check.after(10, shop(4));
        house.number(4, 12);
        check.same("on 10", house.lawful(0), 0);
        house.days(1);
        check.same("on 11", house.lawful(0), 0);
        house.days(1);
        check.same("on 12", house.lawful(0), 1);
        house.days(1);
        check.same("on 13", house.lawful(0), 1);
        GuildHouse past = Check.after(10, shop(4));
        past.number(4, 3);
        check.same("from a day that is past", past.lawful(0), 1);
    }

    private static void numberInForce() {
        check.says("Terms 4", "IN FORCE likewise (3 without)");
        check.same("three without", shop(3).lawful(0), 1);
        check.same("four without", shop(4).lawful(0), 0);
        GuildHouse house = Check.after(50, shop(4));
        house.number(4, 50);
        house.number(3, 49);
        check.same("the one from the greatest day", house.lawful(0), 1);
        house.number(3, 50);
        check.same("of two from one day the one told last", house.lawful(0), 0);
        house.number(4, 51);
        check.same("not one that is to come", house.lawful(0), 0);
        house.days(1);
        check.same("as its day comes", house.lawful(0), 1);
        house.number(0, 0);
        check.same("not the one told last, from an earlier day", house.lawful(0), 1);
    }

    private static void atMostNumber() {
        check.says("Terms 4", "HANDS are at most NUMBER (IN FORCE NOW, as known NOW)");
        for (int number = 0; number <= 6; number++) {
            for (int hands = 0; hands <= 7; hands++) {
                GuildHouse house = shop(hands);
                house.number(number, 0);
                check.same(hands + " hands of " + number, house.lawful(0), hands <= number ? 1 : 0);
            }
        }
        GuildHouse house = shop(4);
        house.leave(6);
        check.same("after one left", house.lawful(0), 1);
        check.same("of a shop without hands", house.lawful(1), 1);
    }

    private static void bothAreOneShop() {
        check.says("Terms 4", "another MASTER takes the HANDS (those of both are one shop");
        GuildHouse house = shop(4);
        house.hire(1, 7);
        house.hire(1, 8);
        house.hire(2, 9);
        house.death(0, 1);
        check.same("four and two", house.hands(1), 6);
        check.same("of a third", house.hands(2), 1);
        check.same("of all", house.count(7), 7);
        for (int hand = 3; hand <= 8; hand++) {
            check.no("it is so", house.hire(1, hand));
        }
        GuildHouse none = shop(0);
        none.death(0, 1);
        check.same("none and none", none.hands(1), 0);
        GuildHouse ends = Check.houseOf(30, 3);
        ends.hire(1, 0);
        ends.hire(1, 29);
        ends.death(1, 2);
        check.same("the first and the last person are taken", ends.hands(2), 2);
    }

    private static void heirWasAHand() {
        check.says("Terms 4", "if it was one of them it is none any more");
        GuildHouse house = shop(2);
        house.hire(0, 1);
        check.same("with the heir", house.hands(0), 3);
        house.death(0, 1);
        check.same("without the heir", house.hands(1), 2);
        check.no("the heir is no hand", house.leave(1));
        check.same("of all", house.count(7), 2);

        GuildHouse elsewhere = shop(2);
        elsewhere.hire(2, 1);
        elsewhere.death(0, 1);
        check.same("the heir is a hand of a third", elsewhere.hands(2), 1);
        check.yes("and leaves there", elsewhere.leave(1));

        GuildHouse each = shop(2);
        each.hire(0, 1);
        each.hire(1, 0);
        each.death(0, 1);
        check.same("neither is a hand of the other", each.hands(1), 2);
        check.same("of all", each.count(7), 2);
    }

    private static GuildHouse takenOver(int day) {
        GuildHouse house = Check.after(day, shop(4));
        house.hire(1, 7);
        house.death(0, 1);
        return house;
    }

    private static void hundredDays() {
        check.says("Terms 4", "for 100 DAYS (up to and with the 100th DAY behind)");
        for (int day : new int[] {0, 1, 50}) {
            int[][] due = {{0, 1}, {1, 1}, {99, 1}, {100, 1}, {101, 0}, {1000, 0}};
            for (int[] each : due) {
                GuildHouse house = Check.after(each[0], takenOver(day));
                check.same(each[0] + " days behind " + day, house.lawful(1), each[1]);
                check.same("of a third", house.lawful(2), 1);
            }
        }
        GuildHouse zero = takenOver(5);
        zero.number(0, 0);
        check.same("with a number of 0", zero.lawful(1), 1);
        zero.days(101);
        check.same("with a number of 0 behind the days", zero.lawful(1), 0);
        zero.number(5, 0);
        check.same("as many as there are", zero.lawful(1), 1);
        GuildHouse empty = shop(0);
        empty.death(0, 1);
        for (int hand = 3; hand < 7; hand++) {
            empty.hire(1, hand);
        }
        check.same("who took no hands over has the days", Check.after(100, empty).lawful(1), 1);
        check.same("and no more than those", Check.after(1, empty).lawful(1), 0);
        GuildHouse third = shop(4);
        third.death(1, 2);
        check.same("who took nothing over has no such days", third.lawful(0), 0);
        GuildHouse without = shop(4);
        without.death(1, NONE);
        check.same("nor if nobody did", without.lawful(0), 0);
    }

    private static void hundredDaysAtTheEnd() {
        check.says("Terms 4", "and may have more than NUMBER for 100 DAYS");
        check.same("19,900 and 100", Check.after(100, takenOver(19900)).lawful(1), 1);
        check.same("19,899 and 100", Check.after(100, takenOver(19899)).lawful(1), 1);
        check.same("19,899 and 101", Check.after(101, takenOver(19899)).lawful(1), 0);
        check.same("20,000", takenOver(20000).lawful(1), 1);
    }

    private static void daysNotOver() {
        check.says("Terms 4", "or such DAYS are not over");
        GuildHouse house = Check.after(60, takenOver(0));
        house.hire(1, 8);
        check.same("one more within the days", house.lawful(1), 1);
        house.death(2, 1);
        house.days(100);
        check.same("a second death begins them anew", house.lawful(1), 1);
        house.days(1);
        check.same("and they end", house.lawful(1), 0);

        GuildHouse next = Check.after(60, takenOver(0));
        next.death(1, 2);
        next.days(100);
        check.same("the heir's heir has days of its own", next.lawful(2), 1);
        next.days(1);
        check.same("behind them", next.lawful(2), 0);

        GuildHouse few = Check.after(101, takenOver(0));
        few.leave(3);
        few.leave(4);
        check.same("three behind the days", few.lawful(1), 1);
    }

    private static void hands() {
        check.says("Promise 23", "HANDS of a shop");
        for (int hands = 0; hands <= 9; hands++) {
            check.same(hands + " hands", shop(hands).hands(0), hands);
            check.same("of another", shop(hands).hands(1), 0);
        }

        check.says("Promise 23", "NONE: no such MASTER");
        for (int who : new int[] {3, 11, 12, 30, MAX, NONE, -2, MIN}) {
            check.isNone("hands(" + who + ")", () -> shop(2), h -> h.hands(who));
        }
        check.isNone("of the dead", ShopEdgeTest::mourning, h -> h.hands(1));
        check.same("of the last", shop(2).hands(2), 0);
    }

    private static void lawful() {
        check.says("Promise 24", "Whether a shop is LAWFUL NOW (1, 0)");
        check.same("1", shop(3).lawful(0), 1);
        check.same("0", shop(4).lawful(0), 0);

        check.says("Promise 24", "NONE likewise");
        for (int who : new int[] {3, 11, 12, 30, MAX, NONE, -2, MIN}) {
            check.isNone("lawful(" + who + ")", () -> shop(2), h -> h.lawful(who));
        }
        check.isNone("of the dead", ShopEdgeTest::mourning, h -> h.lawful(1));
        check.isNone("of an heir who has died", () -> {
            GuildHouse house = takenOver(0);
            house.death(1, NONE);
            return house;
        }, h -> h.lawful(1));
        check.same("of the last", shop(2).lawful(2), 1);
    }

    private static GuildHouse counted() {
        GuildHouse house = Check.houseOf(9, 5);
        house.days(11);
        house.term(5, 0, 0, 0);
        house.term(5, 1, 0, 0);
        house.term(6, NONE, 0, 0);
        house.back(0);
        Check.statute(house, "k=0", 0);
        Check.statute(house, "k=0", 0);
        house.piece(5, 1L);
        house.hire(0, 6);
        house.hire(1, 7);
        house.hire(1, 8);
        house.hire(2, 4);
        house.death(4, NONE);
        Check.write(house, "(k=0)");
        return house;
    }

    private static void count() {
        check.says("Promise 27", "0 NOW, 1 PEOPLE, 2 MASTERS, 3 TERMS, 4 STATUTES, 5 PIECES, 6 bytes of the TEXT, 7 HANDS of all");
        int[] due = {11, 9, 4, 3, 2, 1, 5, 3};
        for (int what = 0; what <= 7; what++) {
            check.same("count(" + what + ")", counted().count(what), due[what]);
        }

        check.says("Promise 27", "NONE for others");
        for (int what : new int[] {-1, 8, MIN, MAX}) {
            check.isNone("count(" + what + ")", ShopEdgeTest::counted, h -> h.count(what));
        }
    }
}
