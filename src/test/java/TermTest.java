/** Promises 6 to 8, 14 and 26: term, back, give, value, look. */
public final class TermTest {
    private static final int NONE = GuildHouse.NONE;
    private static final Check check = new Check("TermTest");

    public static void main(String[] args) {
        term();
        manyTerms();
        back();
        look();
        servedRoadAndQuarrels();
        give();
        valueOfParents();
        valueOfMark();
        wrongValues();
        check.finish();
    }

    private static void term() {
        GuildHouse house = Check.houseOf(3);
        house.days(10);
        check.same("term(-1, 0, 0, 0)", house.term(-1, 0, 0, 0), NONE);
        check.same("term(NONE, NONE, 0, 0)", house.term(NONE, NONE, 0, 0), NONE);
        check.same("term(3, 0, 0, 0)", house.term(3, 0, 0, 0), NONE);
        check.same("term(0, 3, 0, 0)", house.term(0, 3, 0, 0), NONE);
        check.same("term(0, -2, 0, 0)", house.term(0, -2, 0, 0), NONE);
        check.same("term(0, 0, 0, 0)", house.term(0, 0, 0, 0), NONE);
        check.same("from behind to", house.term(0, 1, 5, 4), NONE);
        check.same("from below 0", house.term(0, 1, -1, 4), NONE);
        check.same("both below 0", house.term(0, 1, -3, -2), NONE);
        check.same("to behind NOW", house.term(0, 1, 0, 11), NONE);
        check.same("to MAX", house.term(0, 1, 0, Integer.MAX_VALUE), NONE);
        check.same("count(3) after refusals", house.count(3), 0);
        check.same("one day", house.term(0, 1, 4, 4), 0);
        check.same("up to NOW", house.term(0, NONE, 0, 10), 1);
        check.same("NOW alone", house.term(1, 2, 10, 10), 2);
        check.same("told twice", house.term(1, 2, 10, 10), 3);
        check.same("count(3)", house.count(3), 4);
    }

    private static void manyTerms() {
        GuildHouse house = Check.houseOf(3);
        house.days(20000);
        for (int i = 0; i < 100; i++) {
            int from = i * 3;
            check.same("term", house.term(0, 1 + i % 2, from, from + 3), i);
        }
        check.same("the 101st term", house.term(0, 1, 0, 0), NONE);
        check.yes("back(99)", house.back(99));
        check.same("a term taken back still counts", house.term(0, 1, 0, 0), NONE);
        check.same("count(3)", house.count(3), 100);
        check.same("served days of 99 terms", house.value(0, 0, 20000, 20000), 98 * 3 + 4);
        check.same("quarrels of 99 terms", house.value(0, 6, 20000, 20000), 98);

        GuildHouse apart = Check.houseOf(2);
        apart.days(20000);
        for (int i = 0; i < 100; i++) {
            apart.term(0, i % 2 == 0 ? 1 : NONE, 1 + 10 * i, 5 + 10 * i);
        }
        check.same("served days of terms apart", apart.value(0, 0, 20000, 20000), 250);
        check.same("road days of terms apart", apart.value(0, 1, 20000, 20000), 250);
        check.same("the last stretch counts", apart.value(0, 1, 993, 20000), 248);
    }

    private static void back() {
        GuildHouse house = Check.houseOf(2);
        house.term(0, 1, 0, 0);
        check.no("back(-1)", house.back(-1));
        check.no("back(1)", house.back(1));
        house.days(5);
        check.yes("back(0)", house.back(0));
        check.no("back(0) again", house.back(0));
        house.days(5);
        check.no("back(0) later", house.back(0));
        check.same("the day of taking back stays", house.look(0, 5), 5);
        check.same("known in 4", house.value(0, 0, 10, 4), 1);
        check.same("known in 5", house.value(0, 0, 10, 5), 0);
        check.same("count(3)", house.count(3), 1);
    }

    private static void look() {
        GuildHouse house = Check.houseOf(3);
        house.days(50);
        house.term(1, 2, 10, 20);
        house.days(1);
        house.term(2, NONE, 30, 51);
        house.days(1);
        house.back(1);
        int[][] due = {{1, 2, 10, 20, 50, NONE}, {2, NONE, 30, 51, 51, 52}};
        for (int term = 0; term < 2; term++) {
            for (int what = 0; what < 6; what++) {
                check.same("look(" + term + ", " + what + ")", house.look(term, what), due[term][what]);
            }
            check.lookThrows(house, term, -1);
            check.lookThrows(house, term, 6);
        }
        check.lookThrows(house, -1, 0);
        check.lookThrows(house, 2, 0);
        check.lookThrows(house, Integer.MAX_VALUE, 0);
        check.lookThrows(house, 100, 0);
    }

    private static void servedRoadAndQuarrels() {
        GuildHouse house = Check.houseOf(4);
        house.days(100);
        house.term(0, 1, 10, 19);
        house.term(0, 1, 15, 24);
        check.same("overlap with one master", house.value(0, 0, 100, 100), 15);
        check.same("no quarrel with one master", house.value(0, 6, 100, 100), 0);
        house.days(1);
        house.term(0, 2, 20, 29);
        check.same("served up to 22", house.value(0, 0, 22, 101), 13);
        check.same("quarrels", house.value(0, 6, 100, 101), 5);
        check.same("quarrels up to 20", house.value(0, 6, 20, 101), 1);
        check.same("quarrels as known in 100", house.value(0, 6, 100, 100), 0);
        house.days(1);
        house.term(0, 3, 0, 100);
        check.same("three masters quarrel once a day", house.value(0, 6, 100, 102), 20);
        house.days(1);
        house.back(3);
        house.term(0, NONE, 0, 14);
        house.term(0, NONE, 12, 40);
        check.same("road days that are not served", house.value(0, 1, 100, 103), 21);
        check.same("road up to 9", house.value(0, 1, 9, 103), 10);
        check.same("road up to 10", house.value(0, 1, 10, 103), 10);
        check.same("road up to 30", house.value(0, 1, 30, 103), 11);
        check.same("road as known before", house.value(0, 1, 100, 102), 0);
        check.same("served as known in 102", house.value(0, 0, 100, 102), 101);
        check.same("served as known in 103", house.value(0, 0, 100, 103), 20);
        check.same("served on day 0", house.value(0, 0, 0, 102), 1);
        check.same("on a day to come", house.value(0, 0, 20000, 103), 20);
        check.same("of another", house.value(1, 0, 100, 103), 0);
        check.same("a master has not served", house.value(3, 0, 100, 102), 0);
    }

    private static void give() {
        GuildHouse house = Check.houseOf(3, 1);
        house.days(10);
        check.no("give(-1)", house.give(-1, 1, 1));
        check.no("give(3)", house.give(3, 1, 1));
        check.no("letters -1", house.give(1, -1, 1));
        check.no("letters 10", house.give(1, 10, 1));
        check.no("coins -1", house.give(1, 1, -1));
        check.no("coins 10000", house.give(1, 1, 10000));
        check.same("letters after refusals", house.value(1, 2, 10, 10), 0);
        check.same("fees after refusals", house.value(1, 3, 10, 10), 0);
        check.yes("give(1, 9, 9999)", house.give(1, 9, 9999));
        check.yes("give(1, 0, 0)", house.give(1, 0, 0));
        house.days(10);
        check.yes("give(1, 2, 0)", house.give(1, 2, 1));
        check.yes("give(2, 3, 5)", house.give(2, 3, 5));
        check.same("letters", house.value(1, 2, 20, 20), 11);
        check.same("letters on a day to come", house.value(1, 2, 20000, 20), 11);
        check.same("letters on 19", house.value(1, 2, 19, 20), 9);
        check.same("letters known in 19", house.value(1, 2, 20, 19), 9);
        check.same("letters on 9", house.value(1, 2, 9, 20), 0);
        check.same("fees", house.value(1, 3, 20, 20), 10000);
        check.same("fees on 10", house.value(1, 3, 10, 20), 9999);
        check.same("fees known in 9", house.value(1, 3, 20, 9), 0);
        check.same("letters of another", house.value(2, 2, 20, 20), 3);
        for (int i = 4; i < 100; i++) {
            check.yes("give", house.give(i % 2, 0, 9999));
        }
        check.no("the 101st", house.give(2, 1, 1));
        check.same("sum of fees", house.value(1, 3, 20, 20), 10000 + 48 * 9999);
        house.death(0, NONE);
        check.same("what the dead gave is known", house.value(0, 3, 20, 20), 48 * 9999);
    }

    private static void valueOfParents() {
        GuildHouse house = Check.houseOf(2);
        house.person(0, NONE);
        house.person(NONE, 1);
        house.person(2, 3);
        house.days(10);
        house.master(0);
        house.days(10);
        house.master(1);
        house.days(10);
        house.death(0, NONE);
        check.same("k before", house.value(2, 5, 9, 30), 0);
        check.same("k as known before", house.value(2, 5, 30, 9), 0);
        check.same("k on that day", house.value(2, 5, 10, 10), 1);
        check.same("k by the other parent", house.value(3, 5, 20, 30), 1);
        check.same("k by the other parent, before", house.value(3, 5, 19, 30), 0);
        check.same("k: the parent was a master and died", house.value(2, 5, 30, 30), 1);
        check.same("k of a grandchild", house.value(4, 5, 30, 30), 0);
        check.same("k of the master itself", house.value(0, 5, 30, 30), 0);
    }

    private static void valueOfMark() {
        GuildHouse house = Check.houseOf(4, 3);
        house.days(5);
        house.piece(3, 1L);
        Check.markAll(house, 0, 10, 10, 10, 4);
        check.same("m of a piece refused", house.value(3, 4, 5, 5), 0);
        house.days(5);
        house.piece(3, 1L);
        check.same("m of a piece not done", house.value(3, 4, 10, 10), 0);
        Check.markAll(house, 1, 7, 8, 5, 10);
        house.days(5);
        check.same("m", house.value(3, 4, 15, 15), 7);
        check.same("m on its day", house.value(3, 4, 10, 10), 7);
        check.same("m the day before", house.value(3, 4, 9, 15), 0);
        check.same("m as known the day before", house.value(3, 4, 15, 9), 0);
        check.same("m of a judge", house.value(0, 4, 15, 15), 0);
    }

    private static void wrongValues() {
        GuildHouse house = Check.houseOf(1);
        house.days(10);
        for (int what = 0; what <= 6; what++) {
            check.same("value(0, " + what + ")", house.value(0, what, 20000, 10), 0);
            check.same("value(1, " + what + ")", house.value(1, what, 10, 10), NONE);
            check.same("value(-1, " + what + ")", house.value(-1, what, 10, 10), NONE);
            check.same("d -1", house.value(0, what, -1, 10), NONE);
            check.same("d 20001", house.value(0, what, 20001, 10), NONE);
            check.same("d MAX", house.value(0, what, Integer.MAX_VALUE, 10), NONE);
            check.same("q -1", house.value(0, what, 10, -1), NONE);
            check.same("q behind NOW", house.value(0, what, 10, 11), NONE);
        }
        check.same("what -1", house.value(0, -1, 10, 10), NONE);
        check.same("what 7", house.value(0, 7, 10, 10), NONE);
    }
}
