/** Promises 12, 13 and 15: statute, force, may. */
public final class StatuteTest {
    private static final int NONE = GuildHouse.NONE;
    private static final Check check = new Check("StatuteTest");

    public static void main(String[] args) {
        statute();
        force();
        words();
        years();
        joints();
        longTexts();
        dayZero();
        mayByAnOlderOne();
        mayAsKnown();
        wrongMay();
        check.finish();
    }

    private static void statute() {
        GuildHouse house = new GuildHouse();
        check.same("an empty text", house.statute(0), NONE);
        Check.write(house, "d>1");
        check.same("from -1", house.statute(-1), NONE);
        check.same("from 20001", house.statute(20001), NONE);
        check.same("refused: the text stays", house.count(6), 3);
        check.same("from 0", house.statute(0), 0);
        check.same("the text is empty then", house.count(6), 0);
        check.same("nothing left", house.statute(0), NONE);
        check.same("from 20000", Check.statute(house, "d>2", 20000), 1);
        Check.write(house, "d>");
        check.same("a fault", house.statute(0), NONE);
        check.same("refused: the fault stays", house.count(6), 2);
        Check.write(house, "5");
        check.same("mended", house.statute(3), 2);
        for (int i = 3; i < 30; i++) {
            check.same("statute", Check.statute(house, "k=1", 20000 - i), i);
        }
        Check.write(house, "d>1");
        check.same("the 31st", house.statute(0), NONE);
        check.same("refused: the text stays", house.count(6), 3);
        check.same("count(4)", house.count(4), 30);
    }

    private static void force() {
        GuildHouse house = new GuildHouse();
        Check.statute(house, "d>1", 10);
        house.days(5);
        Check.statute(house, "d>1", 5);
        Check.statute(house, "d>1", 10);
        house.days(5);
        Check.statute(house, "d>1", 5);
        Check.statute(house, "d>1", 20000);
        check.same("before all", house.force(4, 10), NONE);
        check.same("of two from 5 the one told last", house.force(5, 10), 3);
        check.same("as known in 9", house.force(5, 9), 1);
        check.same("as known in 4", house.force(9, 4), NONE);
        check.same("from 10 before from 5", house.force(10, 10), 2);
        check.same("from 10 as known in 4", house.force(10, 4), 0);
        check.same("19999", house.force(19999, 10), 2);
        check.same("20000", house.force(20000, 10), 4);
        check.same("20000 as known in 9", house.force(20000, 9), 2);
        check.same("d -1", house.force(-1, 10), NONE);
        check.same("d 20001", house.force(20001, 10), NONE);
        check.same("q -1", house.force(10, -1), NONE);
        check.same("q behind NOW", house.force(10, 11), NONE);
    }

    /** Person 1 with 725 served days, 30 road days, 7 letters, 12345 coins, mark 8, a child of master 0. */
    private static GuildHouse houseOfValues() {
        GuildHouse house = Check.houseOf(1, 1);
        house.person(0, NONE);
        for (int i = 2; i < 6; i++) {
            house.person(NONE, NONE);
            house.master(i);
        }
        house.days(1000);
        house.term(1, 5, 0, 724);
        house.term(1, NONE, 720, 754);
        house.give(1, 7, 9999);
        house.give(1, 0, 2346);
        house.piece(1, 3L);
        Check.markAll(house, 0, 8, 8, 8, 8);
        return house;
    }

    private static void words() {
        word('d', 725);
        word('y', 2);
        word('w', 30);
        word('l', 7);
        word('f', 12345);
        word('m', 8);
        word('k', 1);
    }

    private static void word(char word, int value) {
        for (int number = value - 1; number <= value + 1; number++) {
            holds(word + "<" + number, value < number);
            holds(word + ">" + number, value > number);
            holds(word + "=" + number, value == number);
        }
    }

    private static void years() {
        int[][] daysAndYears = {{0, 0}, {1, 0}, {359, 0}, {360, 1}, {719, 1}, {720, 2}, {3599, 9}, {3600, 10}};
        for (int[] each : daysAndYears) {
            GuildHouse house = Check.houseOf(2);
            house.days(4000);
            if (each[0] > 0) {
                house.term(0, 1, 1, each[0]);
            }
            Check.statute(house, "y=" + each[1], 0);
            check.same("y of " + each[0] + " days", house.may(0, 4000, 4000), 1);
        }
    }

    /** Thirty texts, the last of 120 bytes; each is in force on its own day and asks for that many letters. */
    private static void longTexts() {
        GuildHouse house = Check.houseOf(1);
        for (int i = 0; i < 29; i++) {
            check.same("statute", Check.statute(house, "l=" + i, i), i);
        }
        for (int k = 0; k < 29; k++) {
            house.feed(0x20202020);
        }
        check.same("120 bytes", Check.write(house, "l=29"), 120);
        check.same("statute of 120 bytes", house.statute(29), 29);
        for (int i = 0; i < 30; i++) {
            check.same("statute " + i + " with 0", house.may(0, i, 0), i == 0 ? 1 : 0);
        }
        for (int letters : new int[] {9, 9, 9, 2}) {
            house.give(0, letters, 0);
        }
        for (int i = 0; i < 30; i++) {
            check.same("statute " + i + " with 29", house.may(0, i, 0), i == 29 ? 1 : 0);
        }
    }

    private static void dayZero() {
        GuildHouse house = Check.houseOf(2);
        Check.statute(house, "d>5", 0);
        check.same("force(0, 0)", house.force(0, 0), 0);
        check.same("may(0, 0, 0)", house.may(0, 0, 0), 0);
        house.term(0, 1, 0, 0);
        check.same("value on day 0", house.value(0, 0, 0, 0), 1);
        house.days(10);
        check.same("as known in 0, on 0", house.force(0, 0), 0);
        check.same("as known in 0, on 10", house.may(0, 10, 0), 0);
        check.same("value as known in 0", house.value(0, 0, 10, 0), 1);
    }

    private static void joints() {
        holds("k=1|k=0&k=0", true);
        holds("(k=1|k=0)&k=0", false);
        holds("k=0&k=0|k=1", true);
        holds("k=0&(k=0|k=1)", false);
        holds("k=1&k=0|k=0&k=1", false);
        holds("k=1&k=1|k=0", true);
        holds("k=0|k=0|k=1", true);
        holds("k=1&k=1&k=0", false);
        holds("k=0|(k=1&(k=0|k=1))", true);
        holds("((((((((k=1))))))))", true);
        holds("((((((((k=0))))))))|k=0", false);
        holds("(k=0)|(k=0)", false);
        holds("(k=1)&(k=0)", false);
        holds("(k=1|k=0)&(k=0|k=1)", true);
        holds("k=1&(k=0)|(k=0|k=1)&k=1", true);
        holds(" d = 00725 & ( y < 3 ) ", true);
        holds("d=725 |d=1", true);
        holds("f<99999&f>00000", true);
        holds("d=1|d=7|d=25", false);
    }

    private static void holds(String text, boolean due) {
        GuildHouse house = houseOfValues();
        check.same("statute '" + text + "'", Check.statute(house, text, 1000), 0);
        Check.statute(house, "k>1", 0);
        check.same("may by '" + text + "'", house.may(1, 1000, 1000), due ? 1 : 0);
    }

    private static void mayByAnOlderOne() {
        GuildHouse house = Check.houseOf(3);
        house.days(100);
        Check.statute(house, "d>9", 10);
        Check.statute(house, "d>20", 40);
        Check.statute(house, "d>99", 60);
        check.same("no statute on 9: all may", house.may(0, 9, 100), 1);
        check.same("no served day", house.may(0, 10, 100), 0);
        house.term(0, 2, 30, 39);
        check.same("d is 10 on 39", house.may(0, 39, 100), 1);
        check.same("d is 9 on 38", house.may(0, 38, 100), 0);
        check.same("by the one in force on 30", house.may(0, 40, 100), 2);
        check.same("by the first, not by those between", house.may(0, 100, 100), 2);
        house.term(0, 2, 45, 55);
        check.same("the first served day stays", house.may(0, 100, 100), 2);
        house.term(1, 2, 41, 60);
        check.same("20 served days from 41 on", house.may(1, 59, 100), 0);
        house.term(1, 2, 61, 61);
        check.same("with the values of d", house.may(1, 61, 100), 2);
        check.same("with the values of an earlier d", house.may(1, 60, 100), 0);
        house.term(1, NONE, 0, 5);
        check.same("the road is no service", house.may(1, 60, 100), 0);
        house.term(1, 2, 9, 9);
        check.same("none in force on the first: all may", house.may(1, 60, 100), 2);
        check.same("the first served day is behind d", house.may(2, 100, 100), 0);
        house.term(2, 1, 80, 90);
        check.same("a served day behind d is none", house.may(2, 70, 100), 0);
    }

    private static void mayAsKnown() {
        GuildHouse house = Check.houseOf(2);
        house.days(10);
        house.term(0, 1, 0, 4);
        check.same("without a statute", house.may(0, 10, 10), 1);
        house.days(10);
        Check.statute(house, "d>9", 5);
        check.same("the statute is not known in 19", house.may(0, 10, 19), 1);
        check.same("known in 20", house.may(0, 10, 20), 2);
        house.days(10);
        house.back(0);
        check.same("taken back, as known in 29", house.may(0, 10, 29), 2);
        check.same("taken back, as known in 30", house.may(0, 10, 30), 0);
        Check.statute(house, "d=0", 0);
        house.term(0, 1, 2, 9);
        check.same("the older is known in 30", house.may(0, 4, 30), 0);
        check.same("the older is no more than told", house.may(0, 1, 30), 1);
        check.same("before that day all might", house.may(0, 1, 29), 1);
    }

    private static void wrongMay() {
        GuildHouse house = Check.houseOf(1, 1);
        house.days(10);
        check.same("may(-1)", house.may(-1, 10, 10), NONE);
        check.same("may(1)", house.may(1, 10, 10), NONE);
        check.same("d -1", house.may(0, -1, 10), NONE);
        check.same("d 20001", house.may(0, 20001, 10), NONE);
        check.same("q -1", house.may(0, 10, -1), NONE);
        check.same("q 11", house.may(0, 10, 11), NONE);
        check.same("d 20000", house.may(0, 20000, 10), 1);
        house.death(0, NONE);
        check.same("of the dead", house.may(0, 10, 10), 1);
    }
}
