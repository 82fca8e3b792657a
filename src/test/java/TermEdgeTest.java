/** The edges that the document names of terms, letters, fees and values: promises 6 to 8, 14 and 26. */
public final class TermEdgeTest {
    private static final int NONE = GuildHouse.NONE;
    private static final int MIN = Integer.MIN_VALUE;
    private static final int MAX = Integer.MAX_VALUE;
    private static final int SERVED = 0;
    private static final int ROAD = 1;
    private static final int LETTERS = 2;
    private static final int FEES = 3;
    private static final int QUARRELS = 6;
    private static final Check check = new Check("TermEdgeTest");

    public static void main(String[] args) {
        mostTerms();
        anyOtherPerson();
        fromADayToADay();
        numbersOfTerms();
        noSuchOnes();
        termAlike();
        termOutOfDays();
        toldUpToQ();
        takenBackUpToQ();
        back();
        servedDays();
        servedDaysOfAll();
        quarrels();
        roadDays();
        lettersAndFees();
        give();
        giveRefused();
        mostGifts();
        valuesByNumber();
        noSuchValue();
        look();
        lookThrows();
        check.finish();
    }

    /** Day 50; person 0 served 1 on the days 10 .. 19 (told on 20), and was on the road 15 .. 29 (told on 30). */
    private static GuildHouse servant() {
        GuildHouse house = Check.after(20, Check.houseOf(4, 2));
        house.term(0, 1, 10, 19);
        house.days(10);
        house.term(0, NONE, 15, 29);
        house.days(20);
        return house;
    }

    private static GuildHouse withTerms(int terms) {
        GuildHouse house = Check.after(300, Check.houseOf(3, 1));
        for (int i = 0; i < terms; i++) {
            house.term(i % 2, i % 3 == 0 ? NONE : 2, 2 * i, 2 * i);
        }
        return house;
    }

    private static void mostTerms() {
        check.says("Terms 1", "TERMS (100 at most)");
        GuildHouse house = withTerms(99);
        check.same("the 100th", house.term(0, 1, 0, 0), 99);
        check.same("a hundred", house.count(3), 100);
        check.same("the 100th is looked at", house.look(99, 1), 1);
        check.isNone("the 101st", () -> withTerms(100), h -> h.term(0, 1, 0, 0));

        check.says("Promise 6", "there are 100");
        check.same("the 100th, on the road", withTerms(99).term(1, NONE, 300, 300), 99);
        check.isNone("the 101st, on the road", () -> withTerms(100), h -> h.term(1, NONE, 300, 300));
        GuildHouse back = withTerms(100);
        back.back(99);
        check.same("what is taken back makes no room", back.term(0, 1, 0, 0), NONE);
    }

    private static void anyOtherPerson() {
        check.says("Terms 1", "(or one that became MASTER later: any other PERSON)");
        GuildHouse house = Check.houseOf(3, 1);
        check.same("with a master", house.term(1, 0, 0, 0), 0);
        check.same("with one who is none", house.term(1, 2, 0, 0), 1);
        check.same("a master with one who is none", house.term(0, 2, 0, 0), 2);
        check.same("each with the other", house.term(2, 1, 0, 0), 3);
        check.same("with one who is none: served", house.value(2, SERVED, 0, 0), 1);
        check.same("quarrels", house.value(1, QUARRELS, 0, 0), 1);
        check.isNone("with itself", TermEdgeTest::servant, h -> h.term(0, 0, 0, 0));
    }

    private static void fromADayToADay() {
        check.says("Terms 1", "from a DAY to a DAY");
        GuildHouse house = Check.after(20, Check.houseOf(2));
        house.term(0, 1, 5, 8);
        int[] due = {0, 0, 0, 0, 0, 1, 2, 3, 4, 4, 4};
        for (int d = 0; d < due.length; d++) {
            check.same("served up to " + d, house.value(0, SERVED, d, 20), due[d]);
        }
        house.term(1, 0, 6, 6);
        check.same("one day, before", house.value(1, SERVED, 5, 20), 0);
        check.same("one day", house.value(1, SERVED, 6, 20), 1);
    }

    private static void numbersOfTerms() {
        check.says("Promise 6", "A TERM of service with another PERSON (NONE: on the ROAD): its number");
        GuildHouse house = Check.after(9, Check.houseOf(30));
        check.same("service", house.term(0, 29, 0, 9), 0);
        check.same("road", house.term(29, NONE, 0, 9), 1);
        check.same("the same again", house.term(0, 29, 0, 9), 2);
        check.same("its master", house.look(0, 1), 29);
        check.same("no master", house.look(1, 1), NONE);
        check.same("served", house.value(0, SERVED, 9, 9), 10);
        check.same("on the road", house.value(29, ROAD, 9, 9), 10);
    }

    private static void noSuchOnes() {
        check.says("Promise 6", "no such ones");
        check.same("the last of the people", servant().term(3, 2, 0, 0), 2);
        for (int who : new int[] {4, 30, MAX, -2, MIN}) {
            check.isNone("person " + who, TermEdgeTest::servant, h -> h.term(who, 1, 0, 0));
            check.isNone("on the road " + who, TermEdgeTest::servant, h -> h.term(who, NONE, 0, 0));
            check.isNone("master " + who, TermEdgeTest::servant, h -> h.term(0, who, 0, 0));
        }
        check.isNone("person NONE", TermEdgeTest::servant, h -> h.term(NONE, 1, 0, 0));
    }

    private static void termAlike() {
        check.says("Promise 6", "alike");
        for (int who : new int[] {0, 1, 3, 4, NONE}) {
            check.isNone("term(" + who + ", " + who + ")", TermEdgeTest::servant, h -> h.term(who, who, 0, 0));
        }
        check.same("unlike", servant().term(1, 0, 0, 0), 2);
    }

    private static void termOutOfDays() {
        check.says("Promise 6", "from behind to");
        check.same("from 7 to 7", servant().term(0, 1, 7, 7), 2);
        check.same("from 7 to 8", servant().term(0, 1, 7, 8), 2);
        check.isNone("from 8 to 7", TermEdgeTest::servant, h -> h.term(0, 1, 8, 7));
        check.isNone("from MAX to 0", TermEdgeTest::servant, h -> h.term(0, 1, MAX, 0));
        check.isNone("from 50 to 49, on the road", TermEdgeTest::servant, h -> h.term(0, NONE, 50, 49));

        check.says("Promise 6", "below 0");
        check.same("from 0", servant().term(0, 1, 0, 50), 2);
        check.isNone("from -1", TermEdgeTest::servant, h -> h.term(0, 1, -1, 5));
        check.isNone("from -1 to -1", TermEdgeTest::servant, h -> h.term(0, 1, -1, -1));
        check.isNone("from MIN to MAX", TermEdgeTest::servant, h -> h.term(0, 1, MIN, MAX));
        check.isNone("from MIN to 0, on the road", TermEdgeTest::servant, h -> h.term(0, NONE, MIN, 0));

        check.says("Promise 6", "to behind NOW");
        check.same("to 50", servant().term(0, 1, 50, 50), 2);
        check.isNone("to 51", TermEdgeTest::servant, h -> h.term(0, 1, 0, 51));
        check.isNone("from 51 to 51", TermEdgeTest::servant, h -> h.term(0, 1, 51, 51));
        check.isNone("to MAX", TermEdgeTest::servant, h -> h.term(0, NONE, 0, MAX));
        check.same("to 20,000", Check.after(20000, Check.houseOf(2)).term(0, 1, 20000, 20000), 0);
        check.isNone("to 20,001", () -> Check.after(20000, Check.houseOf(2)), h -> h.term(0, 1, 20000, 20001));
        check.same("to 0 on the first day", Check.houseOf(2).term(0, 1, 0, 0), 0);
        check.isNone("to 1 on the first day", () -> Check.houseOf(2), h -> h.term(0, 1, 0, 1));
    }

    private static void toldUpToQ() {
        check.says("Terms 1", "known in q are those told on DAYS up to q");
        GuildHouse house = servant();
        check.same("as known on 19", house.value(0, SERVED, 50, 19), 0);
        check.same("as known on 20", house.value(0, SERVED, 50, 20), 10);
        check.same("the road, as known on 29", house.value(0, ROAD, 50, 29), 0);
        check.same("the road, as known on 30", house.value(0, ROAD, 50, 30), 10);
        GuildHouse first = Check.houseOf(2);
        first.term(0, 1, 0, 0);
        check.same("told on day 0, as known on 0", first.value(0, SERVED, 0, 0), 1);
    }

    private static void takenBackUpToQ() {
        check.says("Terms 1", "not taken back on such");
        GuildHouse house = servant();
        house.back(0);
        check.same("as known on 49", house.value(0, SERVED, 50, 49), 10);
        check.same("as known on 50", house.value(0, SERVED, 50, 50), 0);
        check.same("what was no road day is one then", house.value(0, ROAD, 50, 50), 15);
        check.same("and was none before", house.value(0, ROAD, 50, 49), 10);
        house.days(1);
        check.same("as known later", house.value(0, SERVED, 50, 51), 0);
        house.term(0, 1, 1, 2);
        house.back(2);
        check.same("told and taken back on one day", house.value(0, SERVED, 51, 51), 0);
        GuildHouse first = Check.houseOf(2);
        first.term(0, 1, 0, 0);
        first.back(0);
        check.same("taken back on day 0", first.value(0, SERVED, 0, 0), 0);
    }

    private static void back() {
        check.says("Promise 7", "A TERM is taken back, NOW");
        GuildHouse house = servant();
        check.same("not taken back", house.look(1, 5), NONE);
        check.yes("the last", house.back(1));
        check.same("on this day", house.look(1, 5), 50);
        check.yes("the first", house.back(0));
        check.same("they still count", house.count(3), 2);
        GuildHouse full = withTerms(100);
        check.yes("the 100th", full.back(99));

        check.says("Promise 7", "no such one");
        for (int term : new int[] {2, 99, 100, MAX, NONE, MIN}) {
            check.isFalse("back(" + term + ")", TermEdgeTest::servant, h -> h.back(term));
        }
        check.isFalse("back(100) of 100", () -> withTerms(100), h -> h.back(100));
        check.isFalse("back(0) of none", () -> Check.houseOf(2), h -> h.back(0));

        check.says("Promise 7", "it was");
        check.isFalse("on that day", TermEdgeTest::withBack, h -> h.back(0));
        check.isFalse("later", () -> Check.after(3, withBack()), h -> h.back(0));
        check.yes("the other", withBack().back(1));
        check.isFalse("what was taken back on day 0", () -> {
            GuildHouse first = Check.houseOf(2);
            first.term(0, 1, 0, 0);
            first.back(0);
            return Check.after(1, first);
        }, h -> h.back(0));
    }

    private static GuildHouse withBack() {
        GuildHouse house = servant();
        house.back(0);
        return house;
    }

    private static void servedDays() {
        check.says("Terms 1", "the DAYS up to d that are in one TERM of service at least");
        GuildHouse house = Check.after(40, Check.houseOf(4));
        check.same("none", house.value(0, SERVED, 40, 40), 0);
        house.term(0, 1, 10, 19);
        house.term(0, 1, 19, 21);
        check.same("a day in two counts once", house.value(0, SERVED, 40, 40), 12);
        house.term(0, 2, 22, 22);
        check.same("the day behind", house.value(0, SERVED, 40, 40), 13);
        house.term(0, 2, 24, 24);
        check.same("a day between", house.value(0, SERVED, 40, 40), 14);
        check.same("up to the day between", house.value(0, SERVED, 23, 40), 13);
        house.term(0, 3, 12, 14);
        check.same("one within another", house.value(0, SERVED, 40, 40), 14);
        house.term(0, NONE, 0, 40);
        check.same("the road is no service", house.value(0, SERVED, 40, 40), 14);
        house.term(0, 1, 40, 40);
        check.same("up to 39", house.value(0, SERVED, 39, 40), 14);
        check.same("up to 40", house.value(0, SERVED, 40, 40), 15);
        check.same("up to 20,000", house.value(0, SERVED, 20000, 40), 15);
        check.same("who was served has not served", house.value(1, SERVED, 40, 40), 0);
    }

    /** All days there are, and a hundred terms that each begin and end on days of their own. */
    private static void servedDaysOfAll() {
        check.says("Terms 1", "SERVED DAYS of a PERSON up to a DAY d");
        GuildHouse all = Check.after(20000, Check.houseOf(3));
        all.term(0, 1, 0, 20000);
        check.same("all days", all.value(0, SERVED, 20000, 20000), 20001);
        check.same("all but one", all.value(0, SERVED, 19999, 20000), 20000);
        check.same("the first", all.value(0, SERVED, 0, 20000), 1);
        all.term(0, 2, 0, 20000);
        check.same("quarrels on all", all.value(0, QUARRELS, 20000, 20000), 20001);
        all.term(2, NONE, 0, 20000);
        check.same("on the road on all", all.value(2, ROAD, 20000, 20000), 20001);

        GuildHouse many = Check.after(20000, Check.houseOf(3));
        for (int i = 0; i < 100; i++) {
            int from = i == 99 ? 19999 : 1 + 3 * i;
            many.term(0, 1 + i % 2, from, from + (i == 99 ? 1 : 0));
        }
        check.same("a hundred apart", many.value(0, SERVED, 20000, 20000), 101);
        check.same("the last but for a day", many.value(0, SERVED, 19999, 20000), 100);
        check.same("before the last", many.value(0, SERVED, 19998, 20000), 99);
        check.same("no quarrels", many.value(0, QUARRELS, 20000, 20000), 0);
    }

    private static void quarrels() {
        check.says("Terms 1", "with two unlike MASTERS at least");
        GuildHouse house = Check.after(40, Check.houseOf(5));
        house.term(0, 1, 10, 19);
        check.same("one", house.value(0, QUARRELS, 40, 40), 0);
        house.term(0, 1, 10, 19);
        check.same("one twice", house.value(0, QUARRELS, 40, 40), 0);
        house.term(0, NONE, 10, 19);
        check.same("one and the road", house.value(0, QUARRELS, 40, 40), 0);
        house.term(0, 2, 20, 29);
        check.same("one behind the other", house.value(0, QUARRELS, 40, 40), 0);
        house.term(0, 2, 19, 19);
        check.same("two on a day", house.value(0, QUARRELS, 40, 40), 1);
        check.same("up to the day before", house.value(0, QUARRELS, 18, 40), 0);
        check.same("up to that day", house.value(0, QUARRELS, 19, 40), 1);
        house.term(0, 3, 19, 19);
        check.same("three on a day", house.value(0, QUARRELS, 40, 40), 1);
        house.term(0, 1, 15, 19);
        check.same("one, another, one again", house.value(0, QUARRELS, 40, 40), 1);
        house.term(4, 2, 10, 19);
        check.same("of another person", house.value(0, QUARRELS, 40, 40), 1);
        house.back(4);
        check.same("without the second there is the third", house.value(0, QUARRELS, 40, 40), 1);
        house.back(5);
        check.same("without both", house.value(0, QUARRELS, 40, 40), 0);
        check.same("as known the day before", house.value(0, QUARRELS, 40, 39), 0);
    }

    private static void roadDays() {
        check.says("Terms 1", "those in TERMS on the ROAD that are no SERVED DAYS");
        GuildHouse house = Check.after(40, Check.houseOf(3));
        house.term(0, NONE, 10, 19);
        check.same("ten", house.value(0, ROAD, 40, 40), 10);
        check.same("up to the last but one", house.value(0, ROAD, 18, 40), 9);
        check.same("up to the first", house.value(0, ROAD, 10, 40), 1);
        check.same("up to the day before", house.value(0, ROAD, 9, 40), 0);
        house.term(0, NONE, 19, 20);
        check.same("a day in two counts once", house.value(0, ROAD, 40, 40), 11);
        house.term(0, 1, 0, 9);
        check.same("service up to the day before", house.value(0, ROAD, 40, 40), 11);
        house.term(0, 1, 21, 30);
        check.same("service from the day behind", house.value(0, ROAD, 40, 40), 11);
        house.term(0, 1, 10, 10);
        check.same("service on the first", house.value(0, ROAD, 40, 40), 10);
        house.term(0, 2, 20, 20);
        check.same("service on the last", house.value(0, ROAD, 40, 40), 9);
        house.term(1, 2, 0, 40);
        check.same("service of another", house.value(0, ROAD, 40, 40), 9);
        house.back(4);
        check.same("service taken back", house.value(0, ROAD, 40, 40), 10);
    }

    private static void lettersAndFees() {
        check.says("Terms 1", "what was told on DAYS up to d and q");
        GuildHouse house = Check.after(10, Check.houseOf(2));
        house.give(0, 3, 500);
        house.days(10);
        house.give(0, 4, 70);
        house.days(10);
        int[][] due = {{9, 30, 0, 0}, {10, 30, 3, 500}, {19, 30, 3, 500}, {20, 30, 7, 570}, {20000, 30, 7, 570},
            {30, 9, 0, 0}, {30, 10, 3, 500}, {30, 19, 3, 500}, {30, 20, 7, 570}, {10, 20, 3, 500}, {20, 10, 3, 500},
            {9, 10, 0, 0}, {10, 9, 0, 0}, {10, 10, 3, 500}, {20, 20, 7, 570}};
        for (int[] each : due) {
            String of = " on " + each[0] + " as known on " + each[1];
            check.same("letters" + of, house.value(0, LETTERS, each[0], each[1]), each[2]);
            check.same("fees" + of, house.value(0, FEES, each[0], each[1]), each[3]);
        }
        check.same("letters of another", house.value(1, LETTERS, 30, 30), 0);
    }

    private static void give() {
        check.says("Promise 8", "A PERSON has LETTERS more (0 .. 9)");
        GuildHouse house = Check.houseOf(3);
        check.yes("0 letters", house.give(2, 0, 1));
        check.same("none", house.value(2, LETTERS, 0, 0), 0);
        check.yes("9 letters", house.give(2, 9, 0));
        check.yes("9 more", house.give(2, 9, 0));
        check.same("eighteen", house.value(2, LETTERS, 0, 0), 18);

        check.says("Promise 8", "pays coins more (0 .. 9,999), NOW");
        check.yes("0 coins", house.give(1, 1, 0));
        check.same("none", house.value(1, FEES, 0, 0), 0);
        check.yes("9,999 coins", house.give(1, 0, 9999));
        check.yes("9,999 more", house.give(1, 0, 9999));
        check.same("both", house.value(1, FEES, 0, 0), 19998);
        check.yes("nothing of both", house.give(1, 0, 0));
        house.days(1);
        check.yes("a day later", house.give(1, 0, 1));
        check.same("not on day 0", house.value(1, FEES, 0, 1), 19998);
    }

    private static GuildHouse withGifts(int gifts) {
        GuildHouse house = Check.after(3, Check.houseOf(4, 1));
        for (int i = 0; i < gifts; i++) {
            house.give(i % 4, 9, 9999);
        }
        return house;
    }

    private static void giveRefused() {
        check.says("Promise 8", "no such one");
        check.yes("the last", withGifts(3).give(3, 1, 1));
        for (int who : new int[] {4, 30, MAX, NONE, MIN}) {
            check.isFalse("give(" + who + ")", () -> withGifts(3), h -> h.give(who, 1, 1));
        }

        check.says("Promise 8", "out of bounds");
        for (int letters : new int[] {-1, 10, MIN, MAX}) {
            check.isFalse("letters " + letters, () -> withGifts(3), h -> h.give(0, letters, 1));
        }
        for (int coins : new int[] {-1, 10000, MIN, MAX}) {
            check.isFalse("coins " + coins, () -> withGifts(3), h -> h.give(0, 1, coins));
        }
        check.isFalse("both", () -> withGifts(3), h -> h.give(0, -1, 10000));
    }

    private static void mostGifts() {
        check.says("Promise 8", "100 were told");
        GuildHouse house = withGifts(99);
        check.yes("the 100th", house.give(3, 1, 1));
        check.same("letters of all", house.value(3, LETTERS, 3, 3), 24 * 9 + 1);
        check.isFalse("the 101st", () -> withGifts(100), h -> h.give(0, 1, 1));
        check.isFalse("the 101st, of nothing", () -> withGifts(100), h -> h.give(3, 0, 0));
        check.same("fees of 25 times", withGifts(100).value(0, FEES, 3, 3), 25 * 9999);
        GuildHouse one = Check.houseOf(1);
        for (int i = 0; i < 100; i++) {
            one.give(0, 9, 9999);
        }
        check.same("all letters of one", one.value(0, LETTERS, 0, 0), 900);
        check.same("all fees of one", one.value(0, FEES, 0, 0), 999900);
    }

    private static void valuesByNumber() {
        check.says("Promise 14", "0 SERVED DAYS, 1 ROAD DAYS, 2 LETTERS, 3 FEES, 4 m, 5 k, 6 QUARRELS");
        GuildHouse house = Check.houseOf(5, 4);
        house.person(0, NONE);
        house.days(20);
        house.term(5, 0, 0, 9);
        house.term(5, 4, 4, 6);
        house.term(5, NONE, 9, 14);
        house.give(5, 2, 33);
        house.piece(5, 1L);
        Check.markAll(house, 0, 8, 7, 8, 8);
        int[] due = {10, 5, 2, 33, 7, 1, 3};
        for (int what = 0; what <= 6; what++) {
            check.same("value " + what, house.value(5, what, 20, 20), due[what]);
        }
    }

    private static void noSuchValue() {
        check.says("Promise 14", "NONE: no such");
        for (int what : new int[] {-1, 7, MIN, MAX}) {
            check.isNone("what " + what, TermEdgeTest::servant, h -> h.value(0, what, 50, 50));
        }
        for (int what = 0; what <= 6; what++) {
            int which = what;
            GuildHouse house = servant();
            check.yes("the last person", house.value(3, which, 50, 50) == 0);
            check.yes("d 0", house.value(0, which, 0, 50) == 0);
            check.yes("d 20,000", house.value(0, which, 20000, 50) >= 0);
            check.yes("q 0", house.value(0, which, 50, 0) == 0);
            check.yes("q 50", house.value(0, which, 50, 50) >= 0);
            for (int wrong : new int[] {-1, MIN, MAX}) {
                check.isNone("person " + wrong, TermEdgeTest::servant, h -> h.value(wrong, which, 50, 50));
                check.isNone("d " + wrong, TermEdgeTest::servant, h -> h.value(0, which, wrong, 50));
                check.isNone("q " + wrong, TermEdgeTest::servant, h -> h.value(0, which, 50, wrong));
            }
            check.isNone("person 4", TermEdgeTest::servant, h -> h.value(4, which, 50, 50));
            check.isNone("d 20,001", TermEdgeTest::servant, h -> h.value(0, which, 20001, 50));
            check.isNone("q 51", TermEdgeTest::servant, h -> h.value(0, which, 50, 51));
        }
    }

    private static void look() {
        check.says("Promise 26", "0 PERSON, 1 MASTER (NONE: ROAD), 2 from, 3 to, 4 the DAY on which it was told, 5 taken back (NONE)");
        GuildHouse house = withBack();
        int[][] due = {{0, 1, 10, 19, 20, 50}, {0, NONE, 15, 29, 30, NONE}};
        for (int term = 0; term < 2; term++) {
            for (int what = 0; what <= 5; what++) {
                check.same("look(" + term + ", " + what + ")", house.look(term, what), due[term][what]);
            }
        }
        check.same("the 100th", withTerms(100).look(99, 2), 198);
        check.same("the person of the 100th", withTerms(100).look(99, 0), 1);
        GuildHouse first = Check.houseOf(2);
        first.term(1, 0, 0, 0);
        first.back(0);
        check.same("taken back on day 0", first.look(0, 5), 0);
    }

    private static void lookThrows() {
        check.says("Promise 26", "no such TERM");
        for (int term : new int[] {2, 99, 100, MAX, NONE, MIN}) {
            check.isThrown(TermEdgeTest::servant, term, 0);
            check.isThrown(TermEdgeTest::servant, term, 5);
        }
        check.isThrown(() -> Check.houseOf(2), 0, 0);
        check.isThrown(() -> withTerms(100), 100, 0);

        check.says("Promise 26", "TERM, what");
        for (int what : new int[] {-1, 6, MAX, MIN}) {
            check.isThrown(TermEdgeTest::servant, 0, what);
            check.isThrown(TermEdgeTest::servant, 1, what);
            check.isThrown(TermEdgeTest::servant, 2, what);
        }
    }
}
